/-! a State is cleared -/
def clC (h : aH) (s i : Nat) : aH := (h.1, fun b j => if s + 7 ≤ b ∧ b < s + 7 + i ∧ j < 8 then (if j = 0 ∧ b < s + 23 then nI 1 else nI 0) else hI h b j, h.2.2)
theorem hI_clC (h : aH) (s i b j : Nat) : hI (clC h s i) b j = if s + 7 ≤ b ∧ b < s + 7 + i ∧ j < 8 then (if j = 0 ∧ b < s + 23 then nI 1 else nI 0) else hI h b j := rfl
theorem clC_0 {h : aH} {s : Nat} : clC h s 0 = h := by
  refine aH_ext (fun _ => rfl) (fun b j => ?_) (fun _ _ => rfl) (fun _ _ => rfl) rfl rfl
  rw [hI_clC, if_neg (by omega)]
def cl8 (h : aH) (p : Nat) (v : Int32) : aH := sI (sI (sI (sI (sI (sI (sI (sI h p 0 v) p 1 (nI 0)) p 2 (nI 0)) p 3 (nI 0)) p 4 (nI 0)) p 5 (nI 0)) p 6 (nI 0)) p 7 (nI 0)
theorem hI_cl8 (h : aH) (p : Nat) (v : Int32) (b j : Nat) : hI (cl8 h p v) b j = if b = p ∧ j < 8 then (if j = 0 then v else nI 0) else hI h b j := by
  unfold cl8
  by_cases c : b = p
  · subst c
    by_cases c8 : j < 8
    · rw [if_pos ⟨rfl, c8⟩]
      rcases (show j = 0 ∨ j = 1 ∨ j = 2 ∨ j = 3 ∨ j = 4 ∨ j = 5 ∨ j = 6 ∨ j = 7 by omega) with rfl | rfl | rfl | rfl | rfl | rfl | rfl | rfl <;> simp [hI_sI]
    · rw [if_neg (by omega), hI_sI, if_neg (by omega), hI_sI, if_neg (by omega), hI_sI, if_neg (by omega), hI_sI, if_neg (by omega), hI_sI, if_neg (by omega), hI_sI, if_neg (by omega), hI_sI, if_neg (by omega), hI_sI, if_neg (by omega)]
  · rw [if_neg (by omega), hI_sI, if_neg (by omega), hI_sI, if_neg (by omega), hI_sI, if_neg (by omega), hI_sI, if_neg (by omega), hI_sI, if_neg (by omega), hI_sI, if_neg (by omega), hI_sI, if_neg (by omega), hI_sI, if_neg (by omega)]
theorem clC_s {h : aH} {s i : Nat} : cl8 (clC h s i) (s + 7 + i) (if i < 16 then nI 1 else nI 0) = clC h s (i + 1) := by
  refine aH_ext (fun _ => rfl) (fun b j => ?_) (fun _ _ => rfl) (fun _ _ => rfl) rfl rfl
  rw [hI_cl8, hI_clC, hI_clC]
  by_cases c : b = s + 7 + i ∧ j < 8
  · rw [if_pos c, if_pos (show s + 7 ≤ b ∧ b < s + 7 + (i + 1) ∧ j < 8 by omega)]
    by_cases c0 : j = 0
    · rw [if_pos c0]
      by_cases c1 : i < 16
      · rw [if_pos c1, if_pos (by omega)]
      · rw [if_neg c1, if_neg (by omega)]
    · rw [if_neg c0, if_neg (by omega)]
  · rw [if_neg c]
    by_cases c2 : s + 7 ≤ b ∧ b < s + 7 + i ∧ j < 8
    · rw [if_pos c2, if_pos (show s + 7 ≤ b ∧ b < s + 7 + (i + 1) ∧ j < 8 by omega)]
    · rw [if_neg c2, if_neg (by omega)]
theorem p_clear {h : aH} {p : Nat} (hp : hK h p = some (.inl 6)) {v : Nat} (hv : v ≤ 1) : f_X6_clear p (nI v) h = some ((), cl8 h p (nI v)) := by
  have e : nI v = 0 ∨ nI v = 1 := flag01 hv
  simp only [f_X6_clear, ko_t hp, chk_t e]
  rfl
/-- a row of ints filled with nothing -/
theorem j_fill0 {h : aH} {a n : Nat} (ha : hK h a = some (.inr (.int, n))) (hn : n ≤ 1600) : f_J7_fill_53178 a (nI 0) h = some ((), fb h a 0 n (fun _ => nI 0)) := by
  have L := (loop_itr (fun k i (_ : Unit) => f_J7_fill_53178_5 k a (nI 0) (nI i) (nI n) (fb h a 0 i (fun _ => nI 0))) n (fun _ u => u) (fun _ => ((), fb h a 0 n (fun _ => nI 0))) (fun _ _ => True) (fun k i _ hi _ => ⟨?_, trivial⟩) (fun k _ _ => ?_) n 0 () FU (by omega) trivial (FU_gt (by omega))).1
  · rw [show fb h a 0 0 (fun _ => nI 0) = h from fb_0] at L
    have e : Int32.ofNat n = nI n := rfl
    simp only [f_J7_fill_53178, ka_t ha, nm, e]
    exact L
  · have nx := fb_next (h := h) (a := a) (t := 0) (i := i) (f := fun _ => nI 0)
    rw [Nat.zero_add i] at nx
    have k1 : hK (fb h a 0 i (fun _ => nI 0)) a = some (.inr (.int, n)) := ha
    have h1 : ¬ nI n ≤ nI i := nI_ge hi (by omega)
    simp only [f_J7_fill_53178_5, b_J7_fill_53178_5, if_neg h1, ka_t k1, chk_t (inb_nI hi (show n < 2 ^ 31 by omega)), nm, tn_nI (show i < 2 ^ 31 by omega), nI_1, nx]
  · simp only [f_J7_fill_53178_5, b_J7_fill_53178_5, if_pos (Int32.le_refl (nI n))]
def clS (h : aH) (s : Nat) : aH := sI (sI (fb (clC h s 32) (s + 6) 0 256 (fun _ => nI 0)) s 6 (nI 0)) s 7 (nI 0)
theorem s_clear {h : aH} {s : Nat} (S : SS h s) : f_X9_clear s h = some ((), clS h s) := by
  have L := (loop_itr (fun k i (_ : Unit) => f_X9_clear_2 k s (nI i) (clC h s i)) 32 (fun _ u => u) (fun _ => ((), clS h s)) (fun _ _ => True) (fun k i _ hi _ => ⟨?_, trivial⟩) (fun k _ _ => ?_) 32 0 () FU (by omega) trivial (FU_gt (by omega))).1
  · rw [clC_0] at L
    exact L
  · have W : SS (clC h s i) s := S.of rfl rfl
    have kp := W.kp hi
    have st := clC_s (h := h) (s := s) (i := i)
    by_cases c : i < 16
    · have pc := p_clear kp (v := 1) (by omega)
      rw [if_pos c] at st
      rw [st] at pc
      simp (disch := omega) only [nm, bd_s, ko_K, ka_K, koK_t, kaK_t, kr_s, kn_s, kn_n, hK_sI, hR_sI, hK_sL, hR_sL, hI_sL, hL_sI, hL_sL, hI_sI, hN_sI, hN_sL, ch_G, ch_T, nb_0, nb_1, zb_G, d_T, d_F, d_eT, d_eF, b2i_t, b2i_f, tn_nI, fa_lit, fa_litL, m1_e, nI_add, pk_mul, pk_sub, nI_leI, nI_ltI, nI_eq, le_T, le_F, lt_T, lt_F, eq_T, eq_F, if_pos, if_neg, m1_le, m1_lt', m1_gt, m1_le', m1_eq, m1_qe, b2i_eq0, in_N, in_n, in_I, ↓reduceIte, Bool.true_eq_false, Bool.false_eq_true, reduceCtorEq, decide_eq_true_eq, decide_eq_false_iff_not, Nat.not_lt, Nat.not_le, not_true_eq_false, not_false_eq_true, true_and, and_true, and_self, false_and, and_false, true_or, or_true, false_or, or_false, f_X9_clear_2, b_X9_clear_2, f_X9_clear_25, W.k, W.r0, W.k1, W.rp, kp, pc]
    · have pc := p_clear kp (v := 0) (by omega)
      rw [if_neg c] at st
      rw [st] at pc
      simp (disch := omega) only [nm, bd_s, ko_K, ka_K, koK_t, kaK_t, kr_s, kn_s, kn_n, hK_sI, hR_sI, hK_sL, hR_sL, hI_sL, hL_sI, hL_sL, hI_sI, hN_sI, hN_sL, ch_G, ch_T, nb_0, nb_1, zb_G, d_T, d_F, d_eT, d_eF, b2i_t, b2i_f, tn_nI, fa_lit, fa_litL, m1_e, nI_add, pk_mul, pk_sub, nI_leI, nI_ltI, nI_eq, le_T, le_F, lt_T, lt_F, eq_T, eq_F, if_pos, if_neg, m1_le, m1_lt', m1_gt, m1_le', m1_eq, m1_qe, b2i_eq0, in_N, in_n, in_I, ↓reduceIte, Bool.true_eq_false, Bool.false_eq_true, reduceCtorEq, decide_eq_true_eq, decide_eq_false_iff_not, Nat.not_lt, Nat.not_le, not_true_eq_false, not_false_eq_true, true_and, and_true, and_self, false_and, and_false, true_or, or_true, false_or, or_false, f_X9_clear_2, b_X9_clear_2, f_X9_clear_25, W.k, W.r0, W.k1, W.rp, kp, pc]
  · have W : SS (clC h s 32) s := S.of rfl rfl
    have fi := j_fill0 W.k6 (by omega)
    have W2 : SS (fb (clC h s 32) (s + 6) 0 256 (fun _ => nI 0)) s := S.of rfl rfl
    simp (disch := omega) only [nm, bd_s, ko_K, ka_K, koK_t, kaK_t, kr_s, kn_s, kn_n, hK_sI, hR_sI, hK_sL, hR_sL, hI_sL, hL_sI, hL_sL, hI_sI, hN_sI, hN_sL, ch_G, ch_T, nb_0, nb_1, zb_G, d_T, d_F, d_eT, d_eF, b2i_t, b2i_f, tn_nI, fa_lit, fa_litL, m1_e, nI_add, pk_mul, pk_sub, nI_leI, nI_ltI, nI_eq, le_T, le_F, lt_T, lt_F, eq_T, eq_F, if_pos, if_neg, m1_le, m1_lt', m1_gt, m1_le', m1_eq, m1_qe, b2i_eq0, in_N, in_n, in_I, ↓reduceIte, Bool.true_eq_false, Bool.false_eq_true, reduceCtorEq, decide_eq_true_eq, decide_eq_false_iff_not, Nat.not_lt, Nat.not_le, not_true_eq_false, not_false_eq_true, true_and, and_true, and_self, false_and, and_false, true_or, or_true, false_or, or_false, f_X9_clear_2, b_X9_clear_2, W.k, W.r5, fi, W2.k]
    rfl
theorem clS_o {h : aH} {s b j : Nat} (hb : ¬ (s ≤ b ∧ b < s + 39)) : hI (clS h s) b j = hI h b j := by
  unfold clS; rw [hI_sI, if_neg (by omega), hI_sI, if_neg (by omega), hI_fb, if_neg (by omega), hI_clC, if_neg (by omega)]
theorem clS_p {h : aH} {s k j : Nat} (hk : k < 32) (hj : j < 8) : hI (clS h s) (s + 7 + k) j = if j = 0 ∧ k < 16 then nI 1 else nI 0 := by
  unfold clS; rw [hI_sI, if_neg (by omega), hI_sI, if_neg (by omega), hI_fb, if_neg (by omega), hI_clC, if_pos (by omega)]
  by_cases c : j = 0 ∧ k < 16
  · rw [if_pos c, if_pos (by omega)]
  · rw [if_neg c, if_neg (by omega)]
theorem clS_6 {h : aH} {s : Nat} : hI (clS h s) s 6 = nI 0 := by unfold clS; rw [hI_sI, if_neg (by omega), hI_sI, if_pos ⟨rfl, rfl⟩]
theorem clS_7 {h : aH} {s : Nat} : hI (clS h s) s 7 = nI 0 := by unfold clS; rw [hI_sI, if_pos ⟨rfl, rfl⟩]
theorem clS_m {h : aH} {s a : Nat} (ha : a < 1024) : byP (clS h s) (s + 6) a = nI 0 := by
  unfold byP clS; rw [hI_sI, if_neg (by omega), hI_sI, if_neg (by omega), hI_fb, if_pos ⟨rfl, by omega, by omega⟩]
  have : ∀ q, q < 4 → (nI 0 >>> (nI (8 * q) &&& 31)) &&& 255 = nI 0 := by decide
  exact this (a % 4) (by omega)
