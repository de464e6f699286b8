/-! on: what the tape tells -/
def twT (tp : Nat → Nat) (j : Nat) : Nat := 256 * tp j + tp (j + 1)
def emT (tp : Nat → Nat) (a : Nat) : Bool := (fnd (fun i => decide (¬ tp (a + i) = 255)) 8 0).isNone
def ceP (M : Nat) (tp : Nat → Nat) (a : Nat) : Prop := tp a ≤ 1 ∧ twT tp (a + 1) < 4096 ∧ tp (a + 3) ≤ 13 - M ∧ tp (a + 4) < 2 ^ M ∧ tp (a + 5) < 2 ^ M ∧ (tp (a + 5) + 2 ^ M - tp (a + 4)) % 2 ^ M ≤ 2 ^ (M - 1) ∧ tp (a + 6) ≤ 7 ∧ tp (a + 7) ≤ 7
def clP' (M : Nat) (kd : Nat → Nat) (tp : Nat → Nat) (k : Nat) : Prop := (16 ≤ k ∧ emT tp (8 * k) = true) ∨ (ceP M tp (8 * k) ∧ (16 ≤ k → tp (8 * k + 7) = kd ((k - 16) / 4)))
def bT (tp : Nat → Nat) (sh i : Nat) : Nat := twT tp (8 * (16 + 4 * sh) + 1 + 6 * i)
def lT (tp : Nat → Nat) (sh i : Nat) : Nat := twT tp (8 * (16 + 4 * sh) + 1 + 6 * i + 2)
def aT (tp : Nat → Nat) (sh i : Nat) : Nat := twT tp (8 * (16 + 4 * sh) + 1 + 6 * i + 4)
def exT (M b l : Nat) : Bool := decide (dnN b (lexN b (b + l) M) = b) && decide (upN (b + l) (lexN b (b + l) M) = b + l)
def obP (M mem sh : Nat) (tp : Nat → Nat) (i : Nat) : Prop := gst (bT tp sh) (lT tp sh) i ≤ bT tp sh i ∧ bT tp sh i + lT tp sh i ≤ mem ∧ 1 ≤ aT tp sh i ∧ aT tp sh i ≤ lT tp sh i ∧ exT M (bT tp sh i) (lT tp sh i) = true
def imP (M mem sh : Nat) (kd : Nat → Nat) (tp : Nat → Nat) (n : Nat) : Prop := 8 * (16 + 4 * sh) + 2 ≤ n ∧ tp (8 * (16 + 4 * sh)) ≤ 32 ∧ n = 8 * (16 + 4 * sh) + 6 * tp (8 * (16 + 4 * sh)) + 2 ∧ ckN tp (n - 1) = tp (n - 1) ∧ (∀ k, k < 16 + 4 * sh → clP' M kd tp k) ∧ (∀ i, i < tp (8 * (16 + 4 * sh)) → obP M mem sh tp i)
def onN (sh : Nat) (tp : Nat → Nat) (N : tyN) : tyN := fun j =>
  if j < 256 then (if j / 8 < 16 + 4 * sh then (if 16 ≤ j / 8 ∧ emT tp (8 * (j / 8)) = true then (if j % 8 = 0 then 2 else N j) else (if j % 8 = 0 then tp j else if j % 8 = 1 then twT tp j else if j % 8 = 7 then N j else tp (j + 1))) else N j)
  else if j = 256 then tp (8 * (16 + 4 * sh)) else if j < 353 then (if j < 257 + 3 * tp (8 * (16 + 4 * sh)) then twT tp (8 * (16 + 4 * sh) + 1 + 2 * (j - 257)) else N j) else if j ≤ 1377 then 0 else N j
section On0
variable {sh : Nat} {tp : Nat → Nat} {N : tyN}
theorem onN_e {k q : Nat} (hk : k < 16 + 4 * sh) (k32 : k < 32) (hq : q < 8) (e : 16 ≤ k ∧ emT tp (8 * k) = true) : onN sh tp N (8 * k + q) = if q = 0 then 2 else N (8 * k + q) := by
  unfold onN
  rw [if_pos (by omega), show (8 * k + q) / 8 = k by omega, if_pos hk, if_pos e, show (8 * k + q) % 8 = q by omega]
theorem onN_c {k q : Nat} (hk : k < 16 + 4 * sh) (k32 : k < 32) (hq : q < 8) (e : ¬ (16 ≤ k ∧ emT tp (8 * k) = true)) : onN sh tp N (8 * k + q) = if q = 0 then tp (8 * k + q) else if q = 1 then twT tp (8 * k + q) else if q = 7 then N (8 * k + q) else tp (8 * k + q + 1) := by
  unfold onN
  rw [if_pos (by omega), show (8 * k + q) / 8 = k by omega, if_pos hk, if_neg e, show (8 * k + q) % 8 = q by omega]
theorem onN_k {k q : Nat} (hk : ¬ k < 16 + 4 * sh) (k32 : k < 32) (hq : q < 8) : onN sh tp N (8 * k + q) = N (8 * k + q) := by
  unfold onN
  rw [if_pos (by omega), show (8 * k + q) / 8 = k by omega, if_neg hk]
theorem onN_n : onN sh tp N 256 = tp (8 * (16 + 4 * sh)) := by unfold onN; rw [if_neg (by omega), if_pos rfl]
theorem onN_o {i q : Nat} (h32 : tp (8 * (16 + 4 * sh)) ≤ 32) (hi : i < tp (8 * (16 + 4 * sh))) (hq : q < 3) : onN sh tp N (257 + q + 3 * i) = twT tp (8 * (16 + 4 * sh) + 1 + 6 * i + 2 * q) := by
  unfold onN
  rw [if_neg (by omega), if_neg (by omega), if_pos (by omega), if_pos (by omega), show 8 * (16 + 4 * sh) + 1 + 2 * (257 + q + 3 * i - 257) = 8 * (16 + 4 * sh) + 1 + 6 * i + 2 * q by omega]
theorem onN_m {j : Nat} (h1 : 353 ≤ j) (h2 : j ≤ 1377) : onN sh tp N j = 0 := by
  unfold onN; rw [if_neg (by omega), if_neg (by omega), if_neg (by omega), if_pos h2]
end On0
theorem tw_le {tp : Nat → Nat} (tb : ∀ j, tp j ≤ 255) (j : Nat) : twT tp j ≤ 65535 := by have := tb j; have := tb (j + 1); unfold twT; omega
theorem okN.on {M mem sh : Nat} {ns : Nat → List Nat} {kd : Nat → Nat} {cd : Nat → List Nat} {N : tyN} {tp : Nat → Nat} {n : Nat} (q : okN M mem sh N) (okb : okB M mem sh ns kd cd) (tb : ∀ j, tp j ≤ 255) (im : imP M mem sh kd tp n) : okN M mem sh (onN sh tp N) := by
  obtain ⟨q1, q2, q3, q4, q5, q6, q7, q8, q9⟩ := q
  obtain ⟨h4, h8, hm, mm, s4, -⟩ := okb
  obtain ⟨i1, i2, i3, i4, i5, i6⟩ := im
  have pM := p2_le (show M ≤ 8 from h8)
  have cell : ∀ k, k < 32 → okP M (onN sh tp N) (8 * k) ∧ (k < 16 → onN sh tp N (8 * k) ≤ 1) ∧ (16 + 4 * sh ≤ k → onN sh tp N (8 * k) = 2) := by
    intro k hk
    have o := q2 k hk
    by_cases c : k < 16 + 4 * sh
    · by_cases e : 16 ≤ k ∧ emT tp (8 * k) = true
      · have v := fun (j : Nat) (hj : j < 8) => onN_e (N := N) c hk hj e
        have v0 : onN sh tp N (8 * k) = 2 := v 0 (by omega)
        refine ⟨?_, by omega, by omega⟩
        unfold okP at o ⊢
        rw [v0, v 1 (by omega), v 2 (by omega), v 3 (by omega), v 4 (by omega), v 5 (by omega), v 6 (by omega)]
        exact ⟨by omega, o.2⟩
      · have v := fun (j : Nat) (hj : j < 8) => onN_c (N := N) c hk hj e
        have v0 : onN sh tp N (8 * k) = tp (8 * k) := v 0 (by omega)
        obtain ⟨p1, p2, p3, p4, p5, p6, p7, p8⟩ := ((i5 k c).resolve_left e).1
        refine ⟨?_, by omega, by omega⟩
        unfold okP
        rw [v0, v 1 (by omega), v 2 (by omega), v 3 (by omega), v 4 (by omega), v 5 (by omega), v 6 (by omega)]
        exact ⟨by omega, p2, p3, p4, p5, p6, p7, p8⟩
    · have v := fun (j : Nat) (hj : j < 8) => onN_k (tp := tp) (N := N) c hk hj
      have v0 : onN sh tp N (8 * k) = N (8 * k) := v 0 (by omega)
      refine ⟨?_, by omega, fun _ => v0.trans (q4 k (by omega) hk)⟩
      unfold okP at o ⊢
      rw [v0, v 1 (by omega), v 2 (by omega), v 3 (by omega), v 4 (by omega), v 5 (by omega), v 6 (by omega)]
      exact o
  have oB : ∀ i, i < tp (8 * (16 + 4 * sh)) → onN sh tp N (257 + 3 * i) = bT tp sh i := fun i hi => onN_o (q := 0) i2 hi (by omega)
  have oL : ∀ i, i < tp (8 * (16 + 4 * sh)) → onN sh tp N (258 + 3 * i) = lT tp sh i := fun i hi => onN_o (q := 1) i2 hi (by omega)
  have oA : ∀ i, i < tp (8 * (16 + 4 * sh)) → onN sh tp N (259 + 3 * i) = aT tp sh i := fun i hi => onN_o (q := 2) i2 hi (by omega)
  refine ⟨fun j => ?_, fun k hk => (cell k hk).1, fun k hk => (cell k (by omega)).2.1 hk, fun k h1 h2 => (cell k h2).2.2 h1, ?_, ?_, fun i hi => ?_, ?_, fun a ha => ?_⟩
  · by_cases c : j < 256
    · obtain ⟨p0, p1, p2, p3, p4, p5, p6, p7⟩ := (cell (j / 8) (by omega)).1
      have e : j = 8 * (j / 8) + j % 8 := by omega
      by_cases c7 : j % 8 = 7
      · have : onN sh tp N j = N j := by
          unfold onN
          rw [if_pos c]
          by_cases z1 : j / 8 < 16 + 4 * sh
          · rw [if_pos z1]
            by_cases z2 : 16 ≤ j / 8 ∧ emT tp (8 * (j / 8)) = true
            · rw [if_pos z2, if_neg (by omega)]
            · rw [if_neg z2, if_neg (by omega), if_neg (by omega), if_pos c7]
          · rw [if_neg z1]
        rw [this]; exact q1 j
      · have hm : j % 8 < 8 := Nat.mod_lt _ (by omega)
        generalize j / 8 = k at *
        generalize j % 8 = q at *
        subst e
        rcases (show q = 0 ∨ q = 1 ∨ q = 2 ∨ q = 3 ∨ q = 4 ∨ q = 5 ∨ q = 6 by omega) with rfl | rfl | rfl | rfl | rfl | rfl | rfl
        · rw [Nat.add_zero (8 * k)]; omega
        all_goals omega
    · by_cases c6 : j = 256
      · rw [c6, onN_n]; omega
      · by_cases c3 : j < 353
        · unfold onN
          rw [if_neg c, if_neg c6, if_pos c3]
          by_cases c4 : j < 257 + 3 * tp (8 * (16 + 4 * sh))
          · rw [if_pos c4]
            have := i6 ((j - 257) / 3) (by omega)
            obtain ⟨-, b2, b3, b4, -⟩ := this
            have e : 2 * (j - 257) = 6 * ((j - 257) / 3) + 2 * ((j - 257) % 3) := by omega
            have hm : (j - 257) % 3 < 3 := Nat.mod_lt _ (by omega)
            rw [e]
            unfold bT lT aT at *
            generalize (j - 257) / 3 = i at *
            rcases (show (j - 257) % 3 = 0 ∨ (j - 257) % 3 = 1 ∨ (j - 257) % 3 = 2 by omega) with z | z | z <;> rw [z]
            · rw [show 8 * (16 + 4 * sh) + 1 + (6 * i + 2 * 0) = 8 * (16 + 4 * sh) + 1 + 6 * i by omega]; omega
            · rw [show 8 * (16 + 4 * sh) + 1 + (6 * i + 2 * 1) = 8 * (16 + 4 * sh) + 1 + 6 * i + 2 by omega]; omega
            · rw [show 8 * (16 + 4 * sh) + 1 + (6 * i + 2 * 2) = 8 * (16 + 4 * sh) + 1 + 6 * i + 4 by omega]; omega
          · rw [if_neg c4]; exact q1 j
        · by_cases c7 : j ≤ 1377
          · rw [onN_m (by omega) c7]; omega
          · unfold onN; rw [if_neg c, if_neg c6, if_neg c3, if_neg c7]; exact q1 j
  · rw [onN_n]; exact i2
  · rw [onN_n]
    intro g hg
    unfold gst gen_
    try simp only
    by_cases cg : g < tp (8 * (16 + 4 * sh))
    · rw [if_pos cg, oB g cg]
      have a := (i6 g cg).1
      unfold gst at a
      by_cases c0 : g = 0
      · rw [if_pos c0] at a ⊢; exact a
      · rw [if_neg c0] at a ⊢; rw [oB (g - 1) (by omega), oL (g - 1) (by omega)]; exact a
    · rw [if_neg cg]
      by_cases c0 : g = 0
      · rw [if_pos c0]; omega
      · rw [if_neg c0, oB (g - 1) (by omega), oL (g - 1) (by omega)]
        exact (i6 (g - 1) (by omega)).2.1
  · rw [onN_n] at hi
    rw [oA i hi, oL i hi]
    exact ⟨(i6 i hi).2.2.1, (i6 i hi).2.2.2.1⟩
  · rw [onN_m (by omega) (by omega)]; omega
  · rw [onN_m (by omega) (by omega)]; omega
theorem md_nI {M b t : Nat} (h4 : 4 ≤ M) (h8 : M ≤ 8) (hb : b < 2 ^ M) : (nI t - nI b) &&& mskI (nI M) = nI ((t + 2 ^ M - b) % 2 ^ M) := by
  have pM := p2_le (show M ≤ 8 from h8)
  rw [nI_wrap (Nat.le_of_lt (Nat.lt_of_lt_of_le hb (by omega))), and_msk (by omega)]
  rcases M_cases h4 h8 with rfl | rfl | rfl | rfl | rfl <;> congr 1 <;> omega
/-! on: the tape as the class reads it -/
section On1
variable {h : aH} {x r tl : Nat} {tp : Nat → Nat} {rf : Nat → Int32} {ft fp : Int32} {sd : Nat} {M mem sh : Nat} {ns : Nat → List Nat} {kd : Nat → Nat} {cd : Nat → List Nat} {N : tyN} {sl : Nat → tyN} {nx c cr : Nat} {rn : Nat} {rw_ : Nat → Nat} {on_ : Nat} {ob : Nat → Nat}
theorem c_num (S : XS h x) (hb : ∀ j, j < 1600 → hI h (x + 1) j = (nI (tp j)).toInt8.toInt32) (tb : ∀ j, tp j ≤ 255) {j : Nat} (hj : j < 1600) : f_X3_numberAt (x + 1) (nI j) h = some (nI (tp j), h) := by
  have q := hb j hj
  have e3 : (nI (tp j)).toInt8.toInt32 &&& nI 255 = nI (tp j) := by
    have := bp_b (nI (tp j))
    rw [show (255 : Int32) = nI 255 from rfl] at this
    rw [this, an_255, Nat.mod_eq_of_lt (by have := tb j; omega)]
  have e16 : Int32.ofNat 1600 = nI 1600 := rfl
  simp (disch := omega) only [nm, bd_s, ko_K, ka_K, koK_t, kaK_t, kr_s, kn_s, kn_n, hK_sI, hR_sI, hK_sL, hR_sL, hI_sL, hL_sI, hL_sL, hI_sI, hN_sI, hN_sL, ch_G, ch_T, nb_0, nb_1, zb_G, d_T, d_F, d_eT, d_eF, b2i_t, b2i_f, tn_nI, fa_lit, fa_litL, m1_e, nI_add, pk_mul, pk_sub, nI_leI, nI_ltI, nI_eq, le_T, le_F, lt_T, lt_F, eq_T, eq_F, if_pos, if_neg, m1_le, m1_lt', m1_gt, m1_le', m1_eq, m1_qe, b2i_eq0, in_N, in_n, in_I, ↓reduceIte, Bool.true_eq_false, Bool.false_eq_true, reduceCtorEq, decide_eq_true_eq, decide_eq_false_iff_not, Nat.not_lt, Nat.not_le, not_true_eq_false, not_false_eq_true, true_and, and_true, and_self, false_and, and_false, true_or, or_true, false_or, or_false, f_X3_numberAt_23, f_X3_numberAt_20, f_X3_numberAt, S.k1, q, e3, e16]
theorem c_two (S : XS h x) (hb : ∀ j, j < 1600 → hI h (x + 1) j = (nI (tp j)).toInt8.toInt32) (tb : ∀ j, tp j ≤ 255) {j : Nat} (hj : j + 1 < 1600) : f_X3_twoAt (x + 1) (nI j) h = some (nI (twT tp j), h) := by
  have n1 := c_num S hb tb (j := j) (by omega)
  have n2 := c_num S hb tb (j := j + 1) hj
  unfold twT
  simp (disch := omega) only [nm, bd_s, ko_K, ka_K, koK_t, kaK_t, kr_s, kn_s, kn_n, hK_sI, hR_sI, hK_sL, hR_sL, hI_sL, hL_sI, hL_sL, hI_sI, hN_sI, hN_sL, ch_G, ch_T, nb_0, nb_1, zb_G, d_T, d_F, d_eT, d_eF, b2i_t, b2i_f, tn_nI, fa_lit, fa_litL, m1_e, nI_add, pk_mul, pk_sub, nI_leI, nI_ltI, nI_eq, le_T, le_F, lt_T, lt_F, eq_T, eq_F, if_pos, if_neg, m1_le, m1_lt', m1_gt, m1_le', m1_eq, m1_qe, b2i_eq0, in_N, in_n, in_I, ↓reduceIte, Bool.true_eq_false, Bool.false_eq_true, reduceCtorEq, decide_eq_true_eq, decide_eq_false_iff_not, Nat.not_lt, Nat.not_le, not_true_eq_false, not_false_eq_true, true_and, and_true, and_self, false_and, and_false, true_or, or_true, false_or, or_false, f_X3_twoAt, n1, n2]
theorem c_emp (S : XS h x) (hb : ∀ j, j < 1600 → hI h (x + 1) j = (nI (tp j)).toInt8.toInt32) (tb : ∀ j, tp j ≤ 255) {a : Nat} (ha : a + 8 ≤ 1600) : f_X3_isEmpty (x + 1) (nI a) h = some (b2i (emT tp a), h) := by
  have L := loop_fnd (fun n i => f_X3_isEmpty_2 n (x + 1) (nI a) (nI i) h) 8 (fun i => decide (¬ tp (a + i) = 255)) (fun _ => (nI 0, h)) (nI 1, h) (fun n i hi => ?_) (fun n => ?_) 8 0 FU (by omega) (FU_gt (by omega))
  · refine Eq.trans L ?_
    unfold emT
    cases fnd (fun i => decide (¬ tp (a + i) = 255)) 8 0 <;> rfl
  · have n1 := c_num S hb tb (j := a + i) (by omega)
    have t := tb (a + i)
    by_cases c : tp (a + i) = 255
    · rw [decide_eq_false (by simpa using c), if_neg (by decide)]
      rw [c] at n1
      simp (disch := omega) only [nm, bd_s, ko_K, ka_K, koK_t, kaK_t, kr_s, kn_s, kn_n, hK_sI, hR_sI, hK_sL, hR_sL, hI_sL, hL_sI, hL_sL, hI_sI, hN_sI, hN_sL, ch_G, ch_T, nb_0, nb_1, zb_G, d_T, d_F, d_eT, d_eF, b2i_t, b2i_f, tn_nI, fa_lit, fa_litL, m1_e, nI_add, pk_mul, pk_sub, nI_leI, nI_ltI, nI_eq, le_T, le_F, lt_T, lt_F, eq_T, eq_F, if_pos, if_neg, m1_le, m1_lt', m1_gt, m1_le', m1_eq, m1_qe, b2i_eq0, in_N, in_n, in_I, ↓reduceIte, Bool.true_eq_false, Bool.false_eq_true, reduceCtorEq, decide_eq_true_eq, decide_eq_false_iff_not, Nat.not_lt, Nat.not_le, not_true_eq_false, not_false_eq_true, true_and, and_true, and_self, false_and, and_false, true_or, or_true, false_or, or_false, f_X3_isEmpty_2, b_X3_isEmpty_2, n1]
    · rw [decide_eq_true c, if_pos rfl]
      simp (disch := omega) only [nm, bd_s, ko_K, ka_K, koK_t, kaK_t, kr_s, kn_s, kn_n, hK_sI, hR_sI, hK_sL, hR_sL, hI_sL, hL_sI, hL_sL, hI_sI, hN_sI, hN_sL, ch_G, ch_T, nb_0, nb_1, zb_G, d_T, d_F, d_eT, d_eF, b2i_t, b2i_f, tn_nI, fa_lit, fa_litL, m1_e, nI_add, pk_mul, pk_sub, nI_leI, nI_ltI, nI_eq, le_T, le_F, lt_T, lt_F, eq_T, eq_F, if_pos, if_neg, m1_le, m1_lt', m1_gt, m1_le', m1_eq, m1_qe, b2i_eq0, in_N, in_n, in_I, ↓reduceIte, Bool.true_eq_false, Bool.false_eq_true, reduceCtorEq, decide_eq_true_eq, decide_eq_false_iff_not, Nat.not_lt, Nat.not_le, not_true_eq_false, not_false_eq_true, true_and, and_true, and_self, false_and, and_false, true_or, or_true, false_or, or_false, f_X3_isEmpty_2, b_X3_isEmpty_2, n1]
  · simp (disch := omega) only [nm, bd_s, ko_K, ka_K, koK_t, kaK_t, kr_s, kn_s, kn_n, hK_sI, hR_sI, hK_sL, hR_sL, hI_sL, hL_sI, hL_sL, hI_sI, hN_sI, hN_sL, ch_G, ch_T, nb_0, nb_1, zb_G, d_T, d_F, d_eT, d_eF, b2i_t, b2i_f, tn_nI, fa_lit, fa_litL, m1_e, nI_add, pk_mul, pk_sub, nI_leI, nI_ltI, nI_eq, le_T, le_F, lt_T, lt_F, eq_T, eq_F, if_pos, if_neg, m1_le, m1_lt', m1_gt, m1_le', m1_eq, m1_qe, b2i_eq0, in_N, in_n, in_I, ↓reduceIte, Bool.true_eq_false, Bool.false_eq_true, reduceCtorEq, decide_eq_true_eq, decide_eq_false_iff_not, Nat.not_lt, Nat.not_le, not_true_eq_false, not_false_eq_true, true_and, and_true, and_self, false_and, and_false, true_or, or_true, false_or, or_false, f_X3_isEmpty_2, b_X3_isEmpty_2]
theorem c_ckT (S : XS h x) (hb : ∀ j, j < 1600 → hI h (x + 1) j = (nI (tp j)).toInt8.toInt32) (tb : ∀ j, tp j ≤ 255) {n : Nat} (hn : n ≤ 1600) : f_X3_check (x + 1) (nI n) h = some (nI (ckN tp n), h) ∧ ckN tp n < 251 := by
  have L := loop_itr (fun k i (s : Nat) => f_X3_check_6 k (x + 1) (nI n) (nI s) (nI i) h) n (fun i s => (3 * s + tp i) % 251) (fun s => (nI s, h)) (fun _ s => s < 251) (fun k i s hi hs => ⟨?_, Nat.mod_lt _ (by omega)⟩) (fun k s hs => ?_) n 0 149 FU (by omega) (by omega) (FU_gt (by omega))
  · exact ⟨L.1, L.2⟩
  · have q := hb i (by omega)
    have e3 : (nI (tp i)).toInt8.toInt32 &&& nI 255 = nI (tp i) := by
      have := bp_b (nI (tp i))
      rw [show (255 : Int32) = nI 255 from rfl] at this
      rw [this, an_255, Nat.mod_eq_of_lt (by have := tb i; omega)]
    have e16 : Int32.ofNat 1600 = nI 1600 := rfl
    have o2 := tb i
    have dv : nI (3 * s + tp i) / nI 251 = nI ((3 * s + tp i) / 251) := pk_div (by omega) (by omega) (by omega)
    have md : 3 * s + tp i - (3 * s + tp i) / 251 * 251 = (3 * s + tp i) % 251 := by omega
    simp (disch := omega) only [nm, bd_s, ko_K, ka_K, koK_t, kaK_t, kr_s, kn_s, kn_n, hK_sI, hR_sI, hK_sL, hR_sL, hI_sL, hL_sI, hL_sL, hI_sI, hN_sI, hN_sL, ch_G, ch_T, nb_0, nb_1, zb_G, d_T, d_F, d_eT, d_eF, b2i_t, b2i_f, tn_nI, fa_lit, fa_litL, m1_e, nI_add, pk_mul, pk_sub, nI_leI, nI_ltI, nI_eq, le_T, le_F, lt_T, lt_F, eq_T, eq_F, if_pos, if_neg, m1_le, m1_lt', m1_gt, m1_le', m1_eq, m1_qe, b2i_eq0, in_N, in_n, in_I, ↓reduceIte, Bool.true_eq_false, Bool.false_eq_true, reduceCtorEq, decide_eq_true_eq, decide_eq_false_iff_not, Nat.not_lt, Nat.not_le, not_true_eq_false, not_false_eq_true, true_and, and_true, and_self, false_and, and_false, true_or, or_true, false_or, or_false, f_X3_check_6, b_X3_check_6, S.k1, q, e3, e16, dv, md]
  · simp (disch := omega) only [nm, bd_s, ko_K, ka_K, koK_t, kaK_t, kr_s, kn_s, kn_n, hK_sI, hR_sI, hK_sL, hR_sL, hI_sL, hL_sI, hL_sL, hI_sI, hN_sI, hN_sL, ch_G, ch_T, nb_0, nb_1, zb_G, d_T, d_F, d_eT, d_eF, b2i_t, b2i_f, tn_nI, fa_lit, fa_litL, m1_e, nI_add, pk_mul, pk_sub, nI_leI, nI_ltI, nI_eq, le_T, le_F, lt_T, lt_F, eq_T, eq_F, if_pos, if_neg, m1_le, m1_lt', m1_gt, m1_le', m1_eq, m1_qe, b2i_eq0, in_N, in_n, in_I, ↓reduceIte, Bool.true_eq_false, Bool.false_eq_true, reduceCtorEq, decide_eq_true_eq, decide_eq_false_iff_not, Nat.not_lt, Nat.not_le, not_true_eq_false, not_false_eq_true, true_and, and_true, and_self, false_and, and_false, true_or, or_true, false_or, or_false, f_X3_check_6, b_X3_check_6, f_X3_check_39]
theorem m_ckT (T : MS h (x + 107)) (hb : ∀ j, j < 1600 → hI h (x + 107 + 1) j = nI (tp j)) (tb : ∀ j, tp j ≤ 255) {n : Nat} (hn : n ≤ 1600) : f_X12_checked (x + 107 + 1) (nI n) h = some (nI (ckN tp n), h) := by
  have L := loop_itr (fun k i (s : Nat) => f_X12_checked_6 k (x + 107 + 1) (nI n) (nI s) (nI i) h) n (fun i s => (3 * s + tp i) % 251) (fun s => (nI s, h)) (fun _ s => s < 251) (fun k i s hi hs => ⟨?_, Nat.mod_lt _ (by omega)⟩) (fun k s hs => ?_) n 0 149 FU (by omega) (by omega) (FU_gt (by omega))
  · exact L.1
  · have q := hb i (by omega)
    have o2 := tb i
    have dv : nI (3 * s + tp i) / nI 251 = nI ((3 * s + tp i) / 251) := pk_div (by omega) (by omega) (by omega)
    have md : 3 * s + tp i - (3 * s + tp i) / 251 * 251 = (3 * s + tp i) % 251 := by omega
    simp (disch := omega) only [nm, bd_s, ko_K, ka_K, koK_t, kaK_t, kr_s, kn_s, kn_n, hK_sI, hR_sI, hK_sL, hR_sL, hI_sL, hL_sI, hL_sL, hI_sI, hN_sI, hN_sL, ch_G, ch_T, nb_0, nb_1, zb_G, d_T, d_F, d_eT, d_eF, b2i_t, b2i_f, tn_nI, fa_lit, fa_litL, m1_e, nI_add, pk_mul, pk_sub, nI_leI, nI_ltI, nI_eq, le_T, le_F, lt_T, lt_F, eq_T, eq_F, if_pos, if_neg, m1_le, m1_lt', m1_gt, m1_le', m1_eq, m1_qe, b2i_eq0, in_N, in_n, in_I, ↓reduceIte, Bool.true_eq_false, Bool.false_eq_true, reduceCtorEq, decide_eq_true_eq, decide_eq_false_iff_not, Nat.not_lt, Nat.not_le, not_true_eq_false, not_false_eq_true, true_and, and_true, and_self, false_and, and_false, true_or, or_true, false_or, or_false, f_X12_checked_6, b_X12_checked_6, T.k0, q, dv, md]
  · simp (disch := omega) only [nm, bd_s, ko_K, ka_K, koK_t, kaK_t, kr_s, kn_s, kn_n, hK_sI, hR_sI, hK_sL, hR_sL, hI_sL, hL_sI, hL_sL, hI_sI, hN_sI, hN_sL, ch_G, ch_T, nb_0, nb_1, zb_G, d_T, d_F, d_eT, d_eF, b2i_t, b2i_f, tn_nI, fa_lit, fa_litL, m1_e, nI_add, pk_mul, pk_sub, nI_leI, nI_ltI, nI_eq, le_T, le_F, lt_T, lt_F, eq_T, eq_F, if_pos, if_neg, m1_le, m1_lt', m1_gt, m1_le', m1_eq, m1_qe, b2i_eq0, in_N, in_n, in_I, ↓reduceIte, Bool.true_eq_false, Bool.false_eq_true, reduceCtorEq, decide_eq_true_eq, decide_eq_false_iff_not, Nat.not_lt, Nat.not_le, not_true_eq_false, not_false_eq_true, true_and, and_true, and_self, false_and, and_false, true_or, or_true, false_or, or_false, f_X12_checked_6, b_X12_checked_6]
theorem m_two (T : MS h (x + 107)) (hb : ∀ j, j < 1600 → hI h (x + 107 + 1) j = nI (tp j)) {j : Nat} (hj : j + 1 < 1600) : f_X12_twoAt (x + 107) (nI j) h = some (nI (twT tp j), h) := by
  have n1 := hb j (by omega)
  have n2 := hb (j + 1) hj
  unfold twT
  simp (disch := omega) only [nm, bd_s, ko_K, ka_K, koK_t, kaK_t, kr_s, kn_s, kn_n, hK_sI, hR_sI, hK_sL, hR_sL, hI_sL, hL_sI, hL_sL, hI_sI, hN_sI, hN_sL, ch_G, ch_T, nb_0, nb_1, zb_G, d_T, d_F, d_eT, d_eF, b2i_t, b2i_f, tn_nI, fa_lit, fa_litL, m1_e, nI_add, pk_mul, pk_sub, nI_leI, nI_ltI, nI_eq, le_T, le_F, lt_T, lt_F, eq_T, eq_F, if_pos, if_neg, m1_le, m1_lt', m1_gt, m1_le', m1_eq, m1_qe, b2i_eq0, in_N, in_n, in_I, ↓reduceIte, Bool.true_eq_false, Bool.false_eq_true, reduceCtorEq, decide_eq_true_eq, decide_eq_false_iff_not, Nat.not_lt, Nat.not_le, not_true_eq_false, not_false_eq_true, true_and, and_true, and_self, false_and, and_false, true_or, or_true, false_or, or_false, f_X12_twoAt, T.k, T.r0, T.k0, n1, n2]
theorem m_emp (T : MS h (x + 107)) (hb : ∀ j, j < 1600 → hI h (x + 107 + 1) j = nI (tp j)) (tb : ∀ j, tp j ≤ 255) {a : Nat} (ha : a + 8 ≤ 1600) : f_X12_isEmptyTold (x + 107) (nI a) h = some (b2i (emT tp a), h) := by
  have L := loop_fnd (fun n i => f_X12_isEmptyTold_2 n (x + 107) (nI a) (nI i) h) 8 (fun i => decide (¬ tp (a + i) = 255)) (fun _ => (nI 0, h)) (nI 1, h) (fun n i hi => ?_) (fun n => ?_) 8 0 FU (by omega) (FU_gt (by omega))
  · refine Eq.trans L ?_
    unfold emT
    cases fnd (fun i => decide (¬ tp (a + i) = 255)) 8 0 <;> rfl
  · have n1 := hb (a + i) (by omega)
    have t := tb (a + i)
    by_cases c : tp (a + i) = 255
    · rw [decide_eq_false (by simpa using c), if_neg (by decide)]
      rw [c] at n1
      simp (disch := omega) only [nm, bd_s, ko_K, ka_K, koK_t, kaK_t, kr_s, kn_s, kn_n, hK_sI, hR_sI, hK_sL, hR_sL, hI_sL, hL_sI, hL_sL, hI_sI, hN_sI, hN_sL, ch_G, ch_T, nb_0, nb_1, zb_G, d_T, d_F, d_eT, d_eF, b2i_t, b2i_f, tn_nI, fa_lit, fa_litL, m1_e, nI_add, pk_mul, pk_sub, nI_leI, nI_ltI, nI_eq, le_T, le_F, lt_T, lt_F, eq_T, eq_F, if_pos, if_neg, m1_le, m1_lt', m1_gt, m1_le', m1_eq, m1_qe, b2i_eq0, in_N, in_n, in_I, ↓reduceIte, Bool.true_eq_false, Bool.false_eq_true, reduceCtorEq, decide_eq_true_eq, decide_eq_false_iff_not, Nat.not_lt, Nat.not_le, not_true_eq_false, not_false_eq_true, true_and, and_true, and_self, false_and, and_false, true_or, or_true, false_or, or_false, f_X12_isEmptyTold_2, b_X12_isEmptyTold_2, T.k, T.r0, T.k0, n1]
    · rw [decide_eq_true c, if_pos rfl]
      simp (disch := omega) only [nm, bd_s, ko_K, ka_K, koK_t, kaK_t, kr_s, kn_s, kn_n, hK_sI, hR_sI, hK_sL, hR_sL, hI_sL, hL_sI, hL_sL, hI_sI, hN_sI, hN_sL, ch_G, ch_T, nb_0, nb_1, zb_G, d_T, d_F, d_eT, d_eF, b2i_t, b2i_f, tn_nI, fa_lit, fa_litL, m1_e, nI_add, pk_mul, pk_sub, nI_leI, nI_ltI, nI_eq, le_T, le_F, lt_T, lt_F, eq_T, eq_F, if_pos, if_neg, m1_le, m1_lt', m1_gt, m1_le', m1_eq, m1_qe, b2i_eq0, in_N, in_n, in_I, ↓reduceIte, Bool.true_eq_false, Bool.false_eq_true, reduceCtorEq, decide_eq_true_eq, decide_eq_false_iff_not, Nat.not_lt, Nat.not_le, not_true_eq_false, not_false_eq_true, true_and, and_true, and_self, false_and, and_false, true_or, or_true, false_or, or_false, f_X12_isEmptyTold_2, b_X12_isEmptyTold_2, T.k, T.r0, T.k0, n1]
  · simp (disch := omega) only [nm, bd_s, ko_K, ka_K, koK_t, kaK_t, kr_s, kn_s, kn_n, hK_sI, hR_sI, hK_sL, hR_sL, hI_sL, hL_sI, hL_sL, hI_sI, hN_sI, hN_sL, ch_G, ch_T, nb_0, nb_1, zb_G, d_T, d_F, d_eT, d_eF, b2i_t, b2i_f, tn_nI, fa_lit, fa_litL, m1_e, nI_add, pk_mul, pk_sub, nI_leI, nI_ltI, nI_eq, le_T, le_F, lt_T, lt_F, eq_T, eq_F, if_pos, if_neg, m1_le, m1_lt', m1_gt, m1_le', m1_eq, m1_qe, b2i_eq0, in_N, in_n, in_I, ↓reduceIte, Bool.true_eq_false, Bool.false_eq_true, reduceCtorEq, decide_eq_true_eq, decide_eq_false_iff_not, Nat.not_lt, Nat.not_le, not_true_eq_false, not_false_eq_true, true_and, and_true, and_self, false_and, and_false, true_or, or_true, false_or, or_false, f_X12_isEmptyTold_2, b_X12_isEmptyTold_2]
def caP (M A e b t p k : Nat) : Prop := A < 4096 ∧ e ≤ 13 - M ∧ b < 2 ^ M ∧ t < 2 ^ M ∧ (t + 2 ^ M - b) % 2 ^ M ≤ 2 ^ (M - 1) ∧ p ≤ 7 ∧ k ≤ 7
theorem c_canBe {q : Nat} (kp : hK h q = some (.inl 6)) (h4 : 4 ≤ M) (h8 : M ≤ 8) {A e b t p k : Nat} (bA : A ≤ 65535) (be : e ≤ 255) (bb : b ≤ 255) (bt : t ≤ 255) (bp : p ≤ 255) (bk : k ≤ 255) (v2 : hI h q 2 = nI A) (v3 : hI h q 3 = nI e) (v4 : hI h q 4 = nI b) (v5 : hI h q 5 = nI t) (v6 : hI h q 6 = nI p) (v7 : hI h q 7 = nI k) : (caP M A e b t p k → f_X3_canBe q (nI M) h = some (nI 1, h)) ∧ (¬ caP M A e b t p k → f_X3_canBe q (nI M) h = some (nI 0, h)) := by
  have pM := p2_le (show M ≤ 8 from h8)
  have p4 := p2_le (show 4 ≤ M from h4)
  have o1 : nI 1 <<< (nI M &&& nI 31) = nI (2 ^ M) := one_shl (by omega)
  have ms : nI (2 ^ M - 1) = mskI (nI M) := (msk_nI (by omega)).symm
  have hf : 2 ^ M / 2 = 2 ^ (M - 1) := by rcases M_cases h4 h8 with rfl | rfl | rfl | rfl | rfl <;> rfl
  have dv : nI (2 ^ M) / nI 2 = nI (2 ^ (M - 1)) := by rw [pk_div (by omega) (by omega) (by omega), hf]
  have m13 : nI 13 - nI M = nI (13 - M) := pk_sub (by omega)
  have lM : (t + 2 ^ M - b) % 2 ^ M < 2 ^ M := Nat.mod_lt _ (by omega)
  have ps : 2 ^ (M - 1) ≤ 128 := p2_le (show M - 1 ≤ 7 by omega)
  unfold caP
  generalize hP : 2 ^ (M - 1) = P at *
  generalize hW : 2 ^ M = W at *
  by_cases c1 : A < 4096
  · by_cases c2 : e ≤ 13 - M
    · by_cases c3 : b < W
      · have md := md_nI (b := b) (t := t) h4 h8 (by omega)
        rw [hW] at md
        generalize (t + W - b) % W = D at *
        by_cases c4 : t < W
        · by_cases c5 : D ≤ P
          · by_cases c6 : p ≤ 7
            · by_cases c7 : k ≤ 7
              · refine ⟨fun _ => ?_, fun z => absurd ⟨c1, c2, c3, c4, c5, c6, c7⟩ z⟩
                simp (disch := omega) only [nm, bd_s, ko_K, ka_K, koK_t, kaK_t, kr_s, kn_s, kn_n, hK_sI, hR_sI, hK_sL, hR_sL, hI_sL, hL_sI, hL_sL, hI_sI, hN_sI, hN_sL, ch_G, ch_T, nb_0, nb_1, zb_G, d_T, d_F, d_eT, d_eF, b2i_t, b2i_f, tn_nI, fa_lit, fa_litL, m1_e, nI_add, pk_mul, pk_sub, nI_leI, nI_ltI, nI_eq, le_T, le_F, lt_T, lt_F, eq_T, eq_F, if_pos, if_neg, m1_le, m1_lt', m1_gt, m1_le', m1_eq, m1_qe, b2i_eq0, in_N, in_n, in_I, ↓reduceIte, Bool.true_eq_false, Bool.false_eq_true, reduceCtorEq, decide_eq_true_eq, decide_eq_false_iff_not, Nat.not_lt, Nat.not_le, not_true_eq_false, not_false_eq_true, true_and, and_true, and_self, false_and, and_false, true_or, or_true, false_or, or_false, f_X3_canBe_83, f_X3_canBe_82, f_X3_canBe, kp, o1, v2, v3, v4, v5, v6, v7, m13, dv, ms, md]
              · refine ⟨fun z => by omega, fun _ => ?_⟩
                simp (disch := omega) only [nm, bd_s, ko_K, ka_K, koK_t, kaK_t, kr_s, kn_s, kn_n, hK_sI, hR_sI, hK_sL, hR_sL, hI_sL, hL_sI, hL_sL, hI_sI, hN_sI, hN_sL, ch_G, ch_T, nb_0, nb_1, zb_G, d_T, d_F, d_eT, d_eF, b2i_t, b2i_f, tn_nI, fa_lit, fa_litL, m1_e, nI_add, pk_mul, pk_sub, nI_leI, nI_ltI, nI_eq, le_T, le_F, lt_T, lt_F, eq_T, eq_F, if_pos, if_neg, m1_le, m1_lt', m1_gt, m1_le', m1_eq, m1_qe, b2i_eq0, in_N, in_n, in_I, ↓reduceIte, Bool.true_eq_false, Bool.false_eq_true, reduceCtorEq, decide_eq_true_eq, decide_eq_false_iff_not, Nat.not_lt, Nat.not_le, not_true_eq_false, not_false_eq_true, true_and, and_true, and_self, false_and, and_false, true_or, or_true, false_or, or_false, f_X3_canBe_83, f_X3_canBe_82, f_X3_canBe, kp, o1, v2, v3, v4, v5, v6, v7, m13, dv, ms, md]
            · refine ⟨fun z => by omega, fun _ => ?_⟩
              simp (disch := omega) only [nm, bd_s, ko_K, ka_K, koK_t, kaK_t, kr_s, kn_s, kn_n, hK_sI, hR_sI, hK_sL, hR_sL, hI_sL, hL_sI, hL_sL, hI_sI, hN_sI, hN_sL, ch_G, ch_T, nb_0, nb_1, zb_G, d_T, d_F, d_eT, d_eF, b2i_t, b2i_f, tn_nI, fa_lit, fa_litL, m1_e, nI_add, pk_mul, pk_sub, nI_leI, nI_ltI, nI_eq, le_T, le_F, lt_T, lt_F, eq_T, eq_F, if_pos, if_neg, m1_le, m1_lt', m1_gt, m1_le', m1_eq, m1_qe, b2i_eq0, in_N, in_n, in_I, ↓reduceIte, Bool.true_eq_false, Bool.false_eq_true, reduceCtorEq, decide_eq_true_eq, decide_eq_false_iff_not, Nat.not_lt, Nat.not_le, not_true_eq_false, not_false_eq_true, true_and, and_true, and_self, false_and, and_false, true_or, or_true, false_or, or_false, f_X3_canBe_83, f_X3_canBe_82, f_X3_canBe, kp, o1, v2, v3, v4, v5, v6, v7, m13, dv, ms, md]
          · refine ⟨fun z => by omega, fun _ => ?_⟩
            simp (disch := omega) only [nm, bd_s, ko_K, ka_K, koK_t, kaK_t, kr_s, kn_s, kn_n, hK_sI, hR_sI, hK_sL, hR_sL, hI_sL, hL_sI, hL_sL, hI_sI, hN_sI, hN_sL, ch_G, ch_T, nb_0, nb_1, zb_G, d_T, d_F, d_eT, d_eF, b2i_t, b2i_f, tn_nI, fa_lit, fa_litL, m1_e, nI_add, pk_mul, pk_sub, nI_leI, nI_ltI, nI_eq, le_T, le_F, lt_T, lt_F, eq_T, eq_F, if_pos, if_neg, m1_le, m1_lt', m1_gt, m1_le', m1_eq, m1_qe, b2i_eq0, in_N, in_n, in_I, ↓reduceIte, Bool.true_eq_false, Bool.false_eq_true, reduceCtorEq, decide_eq_true_eq, decide_eq_false_iff_not, Nat.not_lt, Nat.not_le, not_true_eq_false, not_false_eq_true, true_and, and_true, and_self, false_and, and_false, true_or, or_true, false_or, or_false, f_X3_canBe_83, f_X3_canBe_82, f_X3_canBe, kp, o1, v2, v3, v4, v5, v6, v7, m13, dv, ms, md]
        · refine ⟨fun z => by omega, fun _ => ?_⟩
          simp (disch := omega) only [nm, bd_s, ko_K, ka_K, koK_t, kaK_t, kr_s, kn_s, kn_n, hK_sI, hR_sI, hK_sL, hR_sL, hI_sL, hL_sI, hL_sL, hI_sI, hN_sI, hN_sL, ch_G, ch_T, nb_0, nb_1, zb_G, d_T, d_F, d_eT, d_eF, b2i_t, b2i_f, tn_nI, fa_lit, fa_litL, m1_e, nI_add, pk_mul, pk_sub, nI_leI, nI_ltI, nI_eq, le_T, le_F, lt_T, lt_F, eq_T, eq_F, if_pos, if_neg, m1_le, m1_lt', m1_gt, m1_le', m1_eq, m1_qe, b2i_eq0, in_N, in_n, in_I, ↓reduceIte, Bool.true_eq_false, Bool.false_eq_true, reduceCtorEq, decide_eq_true_eq, decide_eq_false_iff_not, Nat.not_lt, Nat.not_le, not_true_eq_false, not_false_eq_true, true_and, and_true, and_self, false_and, and_false, true_or, or_true, false_or, or_false, f_X3_canBe_83, f_X3_canBe_82, f_X3_canBe, kp, o1, v2, v3, v4, v5, v6, v7, m13, dv, ms, md]
      · refine ⟨fun z => by omega, fun _ => ?_⟩
        simp (disch := omega) only [nm, bd_s, ko_K, ka_K, koK_t, kaK_t, kr_s, kn_s, kn_n, hK_sI, hR_sI, hK_sL, hR_sL, hI_sL, hL_sI, hL_sL, hI_sI, hN_sI, hN_sL, ch_G, ch_T, nb_0, nb_1, zb_G, d_T, d_F, d_eT, d_eF, b2i_t, b2i_f, tn_nI, fa_lit, fa_litL, m1_e, nI_add, pk_mul, pk_sub, nI_leI, nI_ltI, nI_eq, le_T, le_F, lt_T, lt_F, eq_T, eq_F, if_pos, if_neg, m1_le, m1_lt', m1_gt, m1_le', m1_eq, m1_qe, b2i_eq0, in_N, in_n, in_I, ↓reduceIte, Bool.true_eq_false, Bool.false_eq_true, reduceCtorEq, decide_eq_true_eq, decide_eq_false_iff_not, Nat.not_lt, Nat.not_le, not_true_eq_false, not_false_eq_true, true_and, and_true, and_self, false_and, and_false, true_or, or_true, false_or, or_false, f_X3_canBe_83, f_X3_canBe_82, f_X3_canBe, kp, o1, v2, v3, v4, v5, v6, v7, m13]
    · refine ⟨fun z => by omega, fun _ => ?_⟩
      simp (disch := omega) only [nm, bd_s, ko_K, ka_K, koK_t, kaK_t, kr_s, kn_s, kn_n, hK_sI, hR_sI, hK_sL, hR_sL, hI_sL, hL_sI, hL_sL, hI_sI, hN_sI, hN_sL, ch_G, ch_T, nb_0, nb_1, zb_G, d_T, d_F, d_eT, d_eF, b2i_t, b2i_f, tn_nI, fa_lit, fa_litL, m1_e, nI_add, pk_mul, pk_sub, nI_leI, nI_ltI, nI_eq, le_T, le_F, lt_T, lt_F, eq_T, eq_F, if_pos, if_neg, m1_le, m1_lt', m1_gt, m1_le', m1_eq, m1_qe, b2i_eq0, in_N, in_n, in_I, ↓reduceIte, Bool.true_eq_false, Bool.false_eq_true, reduceCtorEq, decide_eq_true_eq, decide_eq_false_iff_not, Nat.not_lt, Nat.not_le, not_true_eq_false, not_false_eq_true, true_and, and_true, and_self, false_and, and_false, true_or, or_true, false_or, or_false, f_X3_canBe_83, f_X3_canBe_82, f_X3_canBe, kp, o1, v2, v3, v4, v5, v6, v7, m13]
  · refine ⟨fun z => by omega, fun _ => ?_⟩
    simp (disch := omega) only [nm, bd_s, ko_K, ka_K, koK_t, kaK_t, kr_s, kn_s, kn_n, hK_sI, hR_sI, hK_sL, hR_sL, hI_sL, hL_sI, hL_sL, hI_sI, hN_sI, hN_sL, ch_G, ch_T, nb_0, nb_1, zb_G, d_T, d_F, d_eT, d_eF, b2i_t, b2i_f, tn_nI, fa_lit, fa_litL, m1_e, nI_add, pk_mul, pk_sub, nI_leI, nI_ltI, nI_eq, le_T, le_F, lt_T, lt_F, eq_T, eq_F, if_pos, if_neg, m1_le, m1_lt', m1_gt, m1_le', m1_eq, m1_qe, b2i_eq0, in_N, in_n, in_I, ↓reduceIte, Bool.true_eq_false, Bool.false_eq_true, reduceCtorEq, decide_eq_true_eq, decide_eq_false_iff_not, Nat.not_lt, Nat.not_le, not_true_eq_false, not_false_eq_true, true_and, and_true, and_self, false_and, and_false, true_or, or_true, false_or, or_false, f_X3_canBe_83, f_X3_canBe_82, f_X3_canBe, kp, o1, v2, v3, v4, v5, v6, v7]
end On1
