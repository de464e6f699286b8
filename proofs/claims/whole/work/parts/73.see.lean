/-! the tape goes; see -/
section Se
variable {h : aH} {x r tl : Nat} {tp : Nat → Nat} {rf : Nat → Int32} {ft fp : Int32} {sd : Nat} {M mem sh : Nat} {ns : Nat → List Nat} {kd : Nat → Nat} {cd : Nat → List Nat} {N : tyN} {sl : Nat → tyN} {nx c cr : Nat} {rn : Nat} {rw_ : Nat → Nat} {on_ : Nat} {ob : Nat → Nat}
theorem tape0_c (C : CX h x (r, tl, tp, rf, ft, fp, sd) (M, mem, sh, ns, kd, cd) N (sl, nx, c, cr) (rn, rw_) (on_, ob)) : CX (sI h x 13 (nI 0)) x (r, 0, tp, rf, ft, fp, sd) (M, mem, sh, ns, kd, cd) N (sl, nx, c, cr) (rn, rw_) (on_, ob) ∧ FC x h (sI h x 13 (nI 0)) := by
  refine ⟨C.upA (A' := (r, 0, tp, rf, ft, fp, sd)) rfl rfl rfl rfl (fun b j q => by rw [hI_sI, if_neg (by omega)]) rfl ?_, fun b b1 b2 => ⟨rfl, fun j => ⟨by rw [hI_sI, if_neg (by omega)], rfl, rfl⟩⟩⟩
  obtain ⟨a1, a2, a3, a4, a5, a6, a7⟩ := C.2.1
  refine ⟨?_, ?_, ?_, ?_, ?_, ?_, a7⟩
  · rw [hI_sI, if_neg (by omega)]; exact a1
  · rw [hI_sI, if_pos ⟨rfl, rfl⟩]
  · intro j hj; rw [hI_sI, if_neg (by omega)]; exact a3 j hj
  · intro j hj; rw [hI_sI, if_neg (by omega)]; exact a4 j hj
  · rw [hI_sI, if_neg (by omega)]; exact a5
  · rw [hI_sI, if_neg (by omega)]; exact a6
theorem tape0_m (Q : CM h (x + 107) (r, tl, tp, rf, ft, fp, sd) (M, mem, sh, ns, kd, cd) N (sl, nx, c, cr) (rn, rw_) (on_, ob)) : CM (sI h (x + 107) 1 (nI 0)) (x + 107) (r, 0, tp, rf, ft, fp, sd) (M, mem, sh, ns, kd, cd) N (sl, nx, c, cr) (rn, rw_) (on_, ob) ∧ FM x h (sI h (x + 107) 1 (nI 0)) := by
  refine ⟨Q.upA (A' := (r, 0, tp, rf, ft, fp, sd)) rfl rfl (fun b j q => by rw [hI_sI, if_neg (by omega)]) (fun _ _ => rfl) ?_, FM.sI (by omega) (by omega)⟩
  obtain ⟨a1, a2, a3, a4, a5, a6, a7⟩ := Q.2.1
  refine ⟨?_, ?_, ?_, ?_, ?_, ?_, a7⟩
  · rw [hI_sI, if_neg (by omega)]; exact a1
  · rw [hI_sI, if_pos ⟨rfl, rfl⟩]
  · intro j hj; rw [hI_sI, if_neg (by omega)]; exact a3 j hj
  · intro j hj; rw [hI_sI, if_neg (by omega)]; exact a4 j hj
  · rw [hI_sI, if_neg (by omega)]; exact a5
  · rw [hI_sI, if_neg (by omega)]; exact a6
theorem tape0_o (O : Ok (r, tl, tp, rf, ft, fp, sd) (M, mem, sh, ns, kd, cd) N (sl, nx, c, cr) (rn, rw_) (on_, ob)) : Ok (r, 0, tp, rf, ft, fp, sd) (M, mem, sh, ns, kd, cd) N (sl, nx, c, cr) (rn, rw_) (on_, ob) := by
  obtain ⟨⟨o1, o2, o3⟩, o4⟩ := O
  exact ⟨⟨Nat.zero_le _, o2, o3⟩, o4⟩
/-- bytes of both tapes -/
theorem by_c {v : Nat} (hv : v ≤ 255) : ((nI v).toInt8.toInt32 < nI 0) = (128 ≤ v) := by
  have : ∀ v, v < 256 → (((nI v).toInt8.toInt32 < nI 0) ↔ 128 ≤ v) := by decide +kernel
  exact propext (this v (by omega))
theorem by_l {v : Nat} (hv : v ≤ 127) : (nI v).toInt8.toInt32 = nI v := fa_byte_small (by omega)
theorem by_w {v : Nat} (hv : v ≤ 255) : (nI v).toInt8.toInt32 &&& nI 255 = nI v := by
  have := bp_b (nI v)
  rw [show (255 : Int32) = nI 255 from rfl] at this
  rw [this, an_255, Nat.mod_eq_of_lt (by omega)]
/-- rows that can be: i of them -/
def seP (tp : Nat → Nat) (i : Nat) : Bool := decide (tp (2 * i) ≤ 127) && decide (tp (2 * i + 1) ≤ 1)
def seA (tp : Nat → Nat) : Nat → Nat → Bool
  | 0, _ => true
  | d + 1, i => seP tp i && seA tp d (i + 1)
/-- i rows taken by the class -/
def LK (h : aH) (y : Nat) (tp : Nat → Nat) (n i : Nat) : aH := sA (sA (sI h y 0 (nI n)) (y + 1) (fun j => if j < i then stp (tp (2 * j)) else hI h (y + 1) j)) (y + 2) (fun j => if j < i then b2i (decide (tp (2 * j + 1) = 1)) else hI h (y + 2) j)
theorem LK_s {y n i : Nat} : sI (sI (LK h y tp n i) (y + 1) i (stp (tp (2 * i)))) (y + 2) i (b2i (decide (tp (2 * i + 1) = 1))) = LK h y tp n (i + 1) := by
  unfold LK
  apply aH_ext
  · intro b; rfl
  · intro b j
    simp only [hI_sI, hI_sA]
    by_cases c1 : b = y + 2
    · subst c1
      by_cases c2 : j = i
      · subst c2; rw [if_pos ⟨rfl, rfl⟩, if_pos rfl, if_pos (by omega)]
      · rw [if_neg (by omega), if_neg (by omega), if_pos rfl, if_pos rfl]
        by_cases c3 : j < i
        · rw [if_pos c3, if_pos (by omega)]
        · rw [if_neg c3, if_neg (by omega)]
    · rw [if_neg (by omega), if_neg c1]
      by_cases c4 : b = y + 1
      · subst c4
        by_cases c2 : j = i
        · subst c2; rw [if_pos ⟨rfl, rfl⟩, if_neg c1, if_pos rfl, if_pos (by omega)]
        · rw [if_neg (by omega), if_neg c1, if_pos rfl, if_pos rfl]
          by_cases c3 : j < i
          · rw [if_pos c3, if_pos (by omega)]
          · rw [if_neg c3, if_neg (by omega)]
      · rw [if_neg (by omega), if_neg c1, if_neg c4, if_neg c4]
  · intro b j; rfl
  · intro b j; rfl
  · rfl
  · rfl
theorem LK_0 {y n : Nat} : LK h y tp n 0 = sI h y 0 (nI n) := by
  unfold LK
  apply aH_ext
  · intro b; rfl
  · intro b j
    simp only [hI_sA, hI_sI]
    by_cases c1 : b = y + 2
    · subst c1; rw [if_pos rfl, if_neg (by omega), if_neg (by omega)]
    · rw [if_neg c1]
      by_cases c2 : b = y + 1
      · subst c2; rw [if_pos rfl, if_neg (by omega), if_neg (by omega)]
      · rw [if_neg c2]
  · intro b j; rfl
  · intro b j; rfl
  · rfl
  · rfl
/-- the class looks: rows of the tape at z, which is n numbers long -/
theorem s_look {y z n : Nat} (k0 : hK h y = some (.inl 8)) (r3 : hR h y 3 = some (y + 1)) (r4 : hR h y 4 = some (y + 2)) (k1 : hK h (y + 1) = some (.inr (.int, 16))) (k2 : hK h (y + 2) = some (.inr (.boolean, 16))) (kz : hK h z = some (.inr (.byte, 1600))) (tz : ∀ j, j < 1600 → hI h z j = (nI (tp j)).toInt8.toInt32) (ht : ∀ j, tp j ≤ 255) (hz : z < y) (n16 : n ≤ 16) (n0 : 1 ≤ n) : f_X8_look y z (nI (2 * n)) h = if seA tp n 0 = true then some (nI 1, LK h y tp n n) else some (nI 0, h) := by
  have e0 : f_X8_look y z (nI (2 * n)) h = f_X8_look_27 FU y z (nI (2 * n)) (nI (2 * 0)) h := by
    have e1 : nI (2 * n) &&& nI 1 = nI 0 := by
      have := fa_mask (2 * n) 1
      rw [show nI (2 ^ 1 - 1) = nI 1 from rfl, show 2 * n % 2 ^ 1 = 0 by omega] at this
      exact this
    have e2 : Int32.ofNat 1600 = nI 1600 := rfl
    simp (disch := omega) only [nm, bd_s, ko_K, ka_K, koK_t, kaK_t, kr_s, kn_s, kn_n, hK_sI, hR_sI, hK_sL, hR_sL, hI_sL, hL_sI, hL_sL, hI_sI, hN_sI, hN_sL, ch_G, ch_T, nb_0, nb_1, zb_G, d_T, d_F, d_eT, d_eF, b2i_t, b2i_f, tn_nI, fa_lit, fa_litL, m1_e, nI_add, pk_mul, pk_sub, nI_leI, nI_ltI, nI_eq, le_T, le_F, lt_T, lt_F, eq_T, eq_F, if_pos, if_neg, m1_le, m1_lt', m1_gt, m1_le', m1_eq, m1_qe, b2i_eq0, in_N, in_n, in_I, ↓reduceIte, Bool.true_eq_false, Bool.false_eq_true, reduceCtorEq, decide_eq_true_eq, decide_eq_false_iff_not, Nat.not_lt, Nat.not_le, not_true_eq_false, not_false_eq_true, true_and, and_true, and_self, false_and, and_false, true_or, or_true, false_or, or_false, f_X8_look, f_X8_look_23, kz, e1, e2]
  have L2 := (loop_itr (fun k i (_ : Unit) => f_X8_look_72 k y z (nI i) (LK h y tp n i)) n (fun _ u => u) (fun _ => (nI 1, LK h y tp n n)) (fun i _ => ∀ j, j < n → seP tp j = true) (fun k i _ hi hs => ⟨?_, hs⟩) (fun k _ _ => ?_))
  · have L1 := fun (d : Nat) => d
    have key : ∀ (d i k : Nat), i + d = n → d < k → (∀ j, j < i → seP tp j = true) → f_X8_look_27 k y z (nI (2 * n)) (nI (2 * i)) h = if seA tp d i = true then some (nI 1, LK h y tp n n) else some (nI 0, h) := by
      intro d
      induction d with
      | zero =>
        intro i k hi hk hs
        obtain ⟨k, rfl⟩ : ∃ m, k = m + 1 := ⟨k - 1, by omega⟩
        have hi : i = n := by omega
        subst hi
        have st := (L2 i 0 () FU (by omega) hs (FU_gt (by omega))).1
        rw [LK_0] at st
        have e3 : nI (2 * i) / nI 2 = nI i := by rw [pk_div (by omega) (by omega) (by omega)]; congr 1; omega
        rw [show seA tp 0 i = true from rfl, if_pos rfl]
        simp (disch := omega) only [nm, bd_s, ko_K, ka_K, koK_t, kaK_t, kr_s, kn_s, kn_n, hK_sI, hR_sI, hK_sL, hR_sL, hI_sL, hL_sI, hL_sL, hI_sI, hN_sI, hN_sL, ch_G, ch_T, nb_0, nb_1, zb_G, d_T, d_F, d_eT, d_eF, b2i_t, b2i_f, tn_nI, fa_lit, fa_litL, m1_e, nI_add, pk_mul, pk_sub, nI_leI, nI_ltI, nI_eq, le_T, le_F, lt_T, lt_F, eq_T, eq_F, if_pos, if_neg, m1_le, m1_lt', m1_gt, m1_le', m1_eq, m1_qe, b2i_eq0, in_N, in_n, in_I, ↓reduceIte, Bool.true_eq_false, Bool.false_eq_true, reduceCtorEq, decide_eq_true_eq, decide_eq_false_iff_not, Nat.not_lt, Nat.not_le, not_true_eq_false, not_false_eq_true, true_and, and_true, and_self, false_and, and_false, true_or, or_true, false_or, or_false, f_X8_look_27, b_X8_look_27, k0, e3]
        exact st
      | succ d ih =>
        intro i k hi hk hs
        obtain ⟨k, rfl⟩ : ∃ m, k = m + 1 := ⟨k - 1, by omega⟩
        have z1 := tz (2 * i) (by omega)
        have z2 := tz (2 * i + 1) (by omega)
        have v1 := ht (2 * i)
        have v2 := ht (2 * i + 1)
        have b1 := by_c v1
        have b2 := by_c v2
        rw [show seA tp (d + 1) i = (seP tp i && seA tp d (i + 1)) from rfl]
        by_cases c1 : tp (2 * i) ≤ 127
        · have b1 := b1.trans (eq_false (show ¬ 128 ≤ tp (2 * i) by omega))
          by_cases c2 : tp (2 * i + 1) ≤ 1
          · have b2 := b2.trans (eq_false (show ¬ 128 ≤ tp (2 * i + 1) by omega))
            have sp : seP tp i = true := by simp [seP, c1, c2]
            have st := ih (i + 1) k (by omega) (by omega) (fun j hj => by
              by_cases cj : j = i
              · rw [cj]; exact sp
              · exact hs j (by omega))
            rw [show 2 * (i + 1) = 2 * i + 2 by omega] at st
            have w2 := by_l (show tp (2 * i + 1) ≤ 127 by omega)
            rw [w2] at z2 b2
            rw [sp, Bool.true_and]
            simp (disch := omega) only [nm, bd_s, ko_K, ka_K, koK_t, kaK_t, kr_s, kn_s, kn_n, hK_sI, hR_sI, hK_sL, hR_sL, hI_sL, hL_sI, hL_sL, hI_sI, hN_sI, hN_sL, ch_G, ch_T, nb_0, nb_1, zb_G, d_T, d_F, d_eT, d_eF, b2i_t, b2i_f, tn_nI, fa_lit, fa_litL, m1_e, nI_add, pk_mul, pk_sub, nI_leI, nI_ltI, nI_eq, le_T, le_F, lt_T, lt_F, eq_T, eq_F, if_pos, if_neg, m1_le, m1_lt', m1_gt, m1_le', m1_eq, m1_qe, b2i_eq0, in_N, in_n, in_I, ↓reduceIte, Bool.true_eq_false, Bool.false_eq_true, reduceCtorEq, decide_eq_true_eq, decide_eq_false_iff_not, Nat.not_lt, Nat.not_le, not_true_eq_false, not_false_eq_true, true_and, and_true, and_self, false_and, and_false, true_or, or_true, false_or, or_false, f_X8_look_27, b_X8_look_27, kz, z1, z2, b1, b2, st]
          · have sp : seP tp i = false := by simp [seP, c2]
            rw [sp, Bool.false_and, if_neg (by decide)]
            by_cases c3 : 128 ≤ tp (2 * i + 1)
            · have b2 := b2.trans (eq_true c3)
              simp (disch := omega) only [nm, bd_s, ko_K, ka_K, koK_t, kaK_t, kr_s, kn_s, kn_n, hK_sI, hR_sI, hK_sL, hR_sL, hI_sL, hL_sI, hL_sL, hI_sI, hN_sI, hN_sL, ch_G, ch_T, nb_0, nb_1, zb_G, d_T, d_F, d_eT, d_eF, b2i_t, b2i_f, tn_nI, fa_lit, fa_litL, m1_e, nI_add, pk_mul, pk_sub, nI_leI, nI_ltI, nI_eq, le_T, le_F, lt_T, lt_F, eq_T, eq_F, if_pos, if_neg, m1_le, m1_lt', m1_gt, m1_le', m1_eq, m1_qe, b2i_eq0, in_N, in_n, in_I, ↓reduceIte, Bool.true_eq_false, Bool.false_eq_true, reduceCtorEq, decide_eq_true_eq, decide_eq_false_iff_not, Nat.not_lt, Nat.not_le, not_true_eq_false, not_false_eq_true, true_and, and_true, and_self, false_and, and_false, true_or, or_true, false_or, or_false, f_X8_look_27, b_X8_look_27, f_X8_look_55, kz, z1, z2, b1, b2]
            · have b2 := b2.trans (eq_false c3)
              have w2 := by_l (show tp (2 * i + 1) ≤ 127 by omega)
              rw [w2] at z2 b2
              simp (disch := omega) only [nm, bd_s, ko_K, ka_K, koK_t, kaK_t, kr_s, kn_s, kn_n, hK_sI, hR_sI, hK_sL, hR_sL, hI_sL, hL_sI, hL_sL, hI_sI, hN_sI, hN_sL, ch_G, ch_T, nb_0, nb_1, zb_G, d_T, d_F, d_eT, d_eF, b2i_t, b2i_f, tn_nI, fa_lit, fa_litL, m1_e, nI_add, pk_mul, pk_sub, nI_leI, nI_ltI, nI_eq, le_T, le_F, lt_T, lt_F, eq_T, eq_F, if_pos, if_neg, m1_le, m1_lt', m1_gt, m1_le', m1_eq, m1_qe, b2i_eq0, in_N, in_n, in_I, ↓reduceIte, Bool.true_eq_false, Bool.false_eq_true, reduceCtorEq, decide_eq_true_eq, decide_eq_false_iff_not, Nat.not_lt, Nat.not_le, not_true_eq_false, not_false_eq_true, true_and, and_true, and_self, false_and, and_false, true_or, or_true, false_or, or_false, f_X8_look_27, b_X8_look_27, f_X8_look_55, kz, z1, z2, b1, b2]
        · have b1 := b1.trans (eq_true (show 128 ≤ tp (2 * i) by omega))
          have sp : seP tp i = false := by simp [seP, c1]
          rw [sp, Bool.false_and, if_neg (by decide)]
          simp (disch := omega) only [nm, bd_s, ko_K, ka_K, koK_t, kaK_t, kr_s, kn_s, kn_n, hK_sI, hR_sI, hK_sL, hR_sL, hI_sL, hL_sI, hL_sL, hI_sI, hN_sI, hN_sL, ch_G, ch_T, nb_0, nb_1, zb_G, d_T, d_F, d_eT, d_eF, b2i_t, b2i_f, tn_nI, fa_lit, fa_litL, m1_e, nI_add, pk_mul, pk_sub, nI_leI, nI_ltI, nI_eq, le_T, le_F, lt_T, lt_F, eq_T, eq_F, if_pos, if_neg, m1_le, m1_lt', m1_gt, m1_le', m1_eq, m1_qe, b2i_eq0, in_N, in_n, in_I, ↓reduceIte, Bool.true_eq_false, Bool.false_eq_true, reduceCtorEq, decide_eq_true_eq, decide_eq_false_iff_not, Nat.not_lt, Nat.not_le, not_true_eq_false, not_false_eq_true, true_and, and_true, and_self, false_and, and_false, true_or, or_true, false_or, or_false, f_X8_look_27, b_X8_look_27, f_X8_look_55, kz, z1, b1]
    rw [e0]
    exact key n 0 FU (by omega) (FU_gt (by omega)) (fun j hj => by omega)
  · have sp := hs i hi
    unfold seP at sp
    simp only [Bool.and_eq_true, decide_eq_true_eq] at sp
    have z1 : hI (LK h y tp n i) z (2 * i) = nI (tp (2 * i)) := by
      unfold LK; rw [hI_sA, if_neg (by omega), hI_sA, if_neg (by omega), hI_sI, if_neg (by omega), tz _ (by omega), by_l sp.1]
    have z2 : hI (LK h y tp n i) z (2 * i + 1) = nI (tp (2 * i + 1)) := by
      unfold LK; rw [hI_sA, if_neg (by omega), hI_sA, if_neg (by omega), hI_sI, if_neg (by omega), tz _ (by omega), by_l (by omega)]
    have e4 : hI (LK h y tp n i) y 0 = nI n := by
      unfold LK; rw [hI_sA, if_neg (by omega), hI_sA, if_neg (by omega), hI_sI, if_pos ⟨rfl, rfl⟩]
    have g0 : hK (LK h y tp n i) y = some (.inl 8) := k0
    have g1 : hK (LK h y tp n i) (y + 1) = some (.inr (.int, 16)) := k1
    have g2 : hK (LK h y tp n i) (y + 2) = some (.inr (.boolean, 16)) := k2
    have gz : hK (LK h y tp n i) z = some (.inr (.byte, 1600)) := kz
    have q3 : hR (LK h y tp n i) y 3 = some (y + 1) := r3
    have q4 : hR (LK h y tp n i) y 4 = some (y + 2) := r4
    have nx1 := LK_s (h := h) (tp := tp) (y := y) (n := n) (i := i)
    have es : nI (tp (2 * i)) - nI 64 = stp (tp (2 * i)) := rfl
    show f_X8_look_72 (k + 1) y z (nI i) (LK h y tp n i) = f_X8_look_72 k y z (nI (i + 1)) (LK h y tp n (i + 1))
    rw [← nx1]
    generalize LK h y tp n i = hh at *
    by_cases c : tp (2 * i + 1) = 1
    · rw [b2i_d c]
      by_cases c6 : 64 ≤ tp (2 * i)
      · have es := (pk_sub c6).symm.trans es
        simp (disch := omega) only [nm, bd_s, ko_K, ka_K, koK_t, kaK_t, kr_s, kn_s, kn_n, hK_sI, hR_sI, hK_sL, hR_sL, hI_sL, hL_sI, hL_sL, hI_sI, hN_sI, hN_sL, ch_G, ch_T, nb_0, nb_1, zb_G, d_T, d_F, d_eT, d_eF, b2i_t, b2i_f, tn_nI, fa_lit, fa_litL, m1_e, nI_add, pk_mul, pk_sub, nI_leI, nI_ltI, nI_eq, le_T, le_F, lt_T, lt_F, eq_T, eq_F, if_pos, if_neg, m1_le, m1_lt', m1_gt, m1_le', m1_eq, m1_qe, b2i_eq0, in_N, in_n, in_I, ↓reduceIte, Bool.true_eq_false, Bool.false_eq_true, reduceCtorEq, decide_eq_true_eq, decide_eq_false_iff_not, Nat.not_lt, Nat.not_le, not_true_eq_false, not_false_eq_true, true_and, and_true, and_self, false_and, and_false, true_or, or_true, false_or, or_false, f_X8_look_72, b_X8_look_72, f_X8_look_115, g0, g1, g2, gz, q3, q4, e4, z1, z2, es, c, an_t]
      · simp (disch := omega) only [nm, bd_s, ko_K, ka_K, koK_t, kaK_t, kr_s, kn_s, kn_n, hK_sI, hR_sI, hK_sL, hR_sL, hI_sL, hL_sI, hL_sL, hI_sI, hN_sI, hN_sL, ch_G, ch_T, nb_0, nb_1, zb_G, d_T, d_F, d_eT, d_eF, b2i_t, b2i_f, tn_nI, fa_lit, fa_litL, m1_e, nI_add, pk_mul, pk_sub, nI_leI, nI_ltI, nI_eq, le_T, le_F, lt_T, lt_F, eq_T, eq_F, if_pos, if_neg, m1_le, m1_lt', m1_gt, m1_le', m1_eq, m1_qe, b2i_eq0, in_N, in_n, in_I, ↓reduceIte, Bool.true_eq_false, Bool.false_eq_true, reduceCtorEq, decide_eq_true_eq, decide_eq_false_iff_not, Nat.not_lt, Nat.not_le, not_true_eq_false, not_false_eq_true, true_and, and_true, and_self, false_and, and_false, true_or, or_true, false_or, or_false, f_X8_look_72, b_X8_look_72, f_X8_look_115, g0, g1, g2, gz, q3, q4, e4, z1, z2, es, c, an_t]
    · rw [b2i_n c]
      by_cases c6 : 64 ≤ tp (2 * i)
      · have es := (pk_sub c6).symm.trans es
        simp (disch := omega) only [nm, bd_s, ko_K, ka_K, koK_t, kaK_t, kr_s, kn_s, kn_n, hK_sI, hR_sI, hK_sL, hR_sL, hI_sL, hL_sI, hL_sL, hI_sI, hN_sI, hN_sL, ch_G, ch_T, nb_0, nb_1, zb_G, d_T, d_F, d_eT, d_eF, b2i_t, b2i_f, tn_nI, fa_lit, fa_litL, m1_e, nI_add, pk_mul, pk_sub, nI_leI, nI_ltI, nI_eq, le_T, le_F, lt_T, lt_F, eq_T, eq_F, if_pos, if_neg, m1_le, m1_lt', m1_gt, m1_le', m1_eq, m1_qe, b2i_eq0, in_N, in_n, in_I, ↓reduceIte, Bool.true_eq_false, Bool.false_eq_true, reduceCtorEq, decide_eq_true_eq, decide_eq_false_iff_not, Nat.not_lt, Nat.not_le, not_true_eq_false, not_false_eq_true, true_and, and_true, and_self, false_and, and_false, true_or, or_true, false_or, or_false, f_X8_look_72, b_X8_look_72, f_X8_look_115, g0, g1, g2, gz, q3, q4, e4, z1, z2, es, c, an_f]
      · simp (disch := omega) only [nm, bd_s, ko_K, ka_K, koK_t, kaK_t, kr_s, kn_s, kn_n, hK_sI, hR_sI, hK_sL, hR_sL, hI_sL, hL_sI, hL_sL, hI_sI, hN_sI, hN_sL, ch_G, ch_T, nb_0, nb_1, zb_G, d_T, d_F, d_eT, d_eF, b2i_t, b2i_f, tn_nI, fa_lit, fa_litL, m1_e, nI_add, pk_mul, pk_sub, nI_leI, nI_ltI, nI_eq, le_T, le_F, lt_T, lt_F, eq_T, eq_F, if_pos, if_neg, m1_le, m1_lt', m1_gt, m1_le', m1_eq, m1_qe, b2i_eq0, in_N, in_n, in_I, ↓reduceIte, Bool.true_eq_false, Bool.false_eq_true, reduceCtorEq, decide_eq_true_eq, decide_eq_false_iff_not, Nat.not_lt, Nat.not_le, not_true_eq_false, not_false_eq_true, true_and, and_true, and_self, false_and, and_false, true_or, or_true, false_or, or_false, f_X8_look_72, b_X8_look_72, f_X8_look_115, g0, g1, g2, gz, q3, q4, e4, z1, z2, es, c, an_f]
  · have e4 : hI (LK h y tp n n) y 0 = nI n := by
      unfold LK; rw [hI_sA, if_neg (by omega), hI_sA, if_neg (by omega), hI_sI, if_pos ⟨rfl, rfl⟩]
    have g0 : hK (LK h y tp n n) y = some (.inl 8) := k0
    simp (disch := omega) only [nm, bd_s, ko_K, ka_K, koK_t, kaK_t, kr_s, kn_s, kn_n, hK_sI, hR_sI, hK_sL, hR_sL, hI_sL, hL_sI, hL_sL, hI_sI, hN_sI, hN_sL, ch_G, ch_T, nb_0, nb_1, zb_G, d_T, d_F, d_eT, d_eF, b2i_t, b2i_f, tn_nI, fa_lit, fa_litL, m1_e, nI_add, pk_mul, pk_sub, nI_leI, nI_ltI, nI_eq, le_T, le_F, lt_T, lt_F, eq_T, eq_F, if_pos, if_neg, m1_le, m1_lt', m1_gt, m1_le', m1_eq, m1_qe, b2i_eq0, in_N, in_n, in_I, ↓reduceIte, Bool.true_eq_false, Bool.false_eq_true, reduceCtorEq, decide_eq_true_eq, decide_eq_false_iff_not, Nat.not_lt, Nat.not_le, not_true_eq_false, not_false_eq_true, true_and, and_true, and_self, false_and, and_false, true_or, or_true, false_or, or_false, f_X8_look_72, b_X8_look_72, g0, e4]
end Se
