/-! what is KEPT; move -/
def ntN (N : tyN) (w a b : Nat) : tyN := fun j => if j = 1377 then min 40 (N 1377 + 1) else if j = 1378 + 3 * min 39 (N 1377) then w else if j = 1378 + 3 * min 39 (N 1377) + 1 then a else if j = 1378 + 3 * min 39 (N 1377) + 2 then b else if N 1377 = 40 ∧ 1378 ≤ j ∧ j < 1495 then N (j + 3) else N j
theorem ntN_lo {N : tyN} {w a b j : Nat} (h : j < 1377) : ntN N w a b j = N j := by
  unfold ntN; rw [if_neg (by omega), if_neg (by omega), if_neg (by omega), if_neg (by omega), if_neg (by omega)]
theorem ntN_n (N : tyN) (w a b : Nat) : ntN N w a b 1377 = min 40 (N 1377 + 1) := if_pos rfl
section Nt
variable {h : aH} {x r tl : Nat} {tp : Nat → Nat} {rf : Nat → Int32} {ft fp : Int32} {sd : Nat} {M mem sh : Nat} {ns : Nat → List Nat} {kd : Nat → Nat} {cd : Nat → List Nat} {N : tyN} {sl : Nat → tyN} {nx c cr : Nat} {rn : Nat} {rw_ : Nat → Nat} {on_ : Nat} {ob : Nat → Nat}
theorem okN.nt (q : okN M mem sh N) {w a b : Nat} (hw : w ≤ 4096) (ha : a ≤ 4096) (hb : b ≤ 4096) : okN M mem sh (ntN N w a b) := by
  obtain ⟨q1, q2, q3, q4, q5, q6, q7, q8, q9⟩ := q
  have e256 : ntN N w a b 256 = N 256 := ntN_lo (by omega)
  refine ⟨fun j => ?_, fun i hi => ?_, fun i hi => ?_, fun i h1 h2 => ?_, ?_, ?_, fun i hi => ?_, ?_, fun a ha => ?_⟩
  · unfold ntN
    have := q1 j
    have := q1 (j + 3)
    repeat (first | split | omega)
  · have := q2 i hi
    unfold okP at this ⊢
    rw [ntN_lo (by omega), ntN_lo (by omega), ntN_lo (by omega), ntN_lo (by omega), ntN_lo (by omega), ntN_lo (by omega), ntN_lo (by omega)]
    exact this
  · rw [ntN_lo (by omega)]; exact q3 i hi
  · rw [ntN_lo (by omega)]; exact q4 i h1 h2
  · rw [e256]; exact q5
  · rw [e256]
    intro g hg
    have := q6 g hg
    have eB : ∀ i, i < N 256 → ntN N w a b (257 + 3 * i) = N (257 + 3 * i) := fun i hi => ntN_lo (by omega)
    have eL : ∀ i, i < N 256 → ntN N w a b (258 + 3 * i) = N (258 + 3 * i) := fun i hi => ntN_lo (by omega)
    unfold gst gen_ at this ⊢
    by_cases c0 : g = 0
    · rw [if_pos c0] at this ⊢
      by_cases c1 : g < N 256
      · rw [if_pos c1] at this ⊢; show 16 ≤ ntN N w a b (257 + 3 * g); rw [eB g c1]; exact this
      · rw [if_neg c1] at this ⊢; exact this
    · rw [if_neg c0] at this ⊢
      show ntN N w a b (257 + 3 * (g - 1)) + ntN N w a b (258 + 3 * (g - 1)) ≤ _
      rw [eB _ (by omega), eL _ (by omega)]
      by_cases c1 : g < N 256
      · rw [if_pos c1] at this ⊢; show _ ≤ ntN N w a b (257 + 3 * g); rw [eB g c1]; exact this
      · rw [if_neg c1] at this ⊢; exact this
  · rw [e256] at hi
    rw [ntN_lo (by omega), ntN_lo (by omega)]; exact q7 i hi
  · rw [ntN_n]; omega
  · rw [ntN_lo (by omega)]; exact q9 a ha
theorem RS.nt {s w a b : Nat} {h1 : aH} (R : RS h s N) (n32 : N 256 ≤ 32) (e : ∀ q, s ≤ q → q < s + 39 → ∀ j, ¬ q = s + 5 → ¬ (q = s ∧ j = 7) → hI h1 q j = hI h q j) (e7 : hI h1 s 7 = nI (ntN N w a b 1377)) (e5 : ∀ i, i < 3 * ntN N w a b 1377 → i < 120 → hI h1 (s + 5) i = nI (ntN N w a b (1378 + i))) : RS h1 s (ntN N w a b) := by
  obtain ⟨r1, r2, r3, r4, r5, r6⟩ := R
  refine ⟨fun i hi => ?_, ?_, fun i h1 h2 => ?_, e7, e5, fun a ha => ?_⟩
  · have := (r1 i hi).fr (h1 := h1) (fun j _ => e _ (by omega) (by omega) j (by omega) (by omega))
    unfold PS at this ⊢
    rw [ntN_lo (by omega), ntN_lo (by omega), ntN_lo (by omega), ntN_lo (by omega), ntN_lo (by omega), ntN_lo (by omega), ntN_lo (by omega)]
    exact this
  · rw [e _ (by omega) (by omega) _ (by omega) (by omega), ntN_lo (by omega)]; exact r2
  · rw [ntN_lo (by omega)] at h1
    rw [e _ (by omega) (by omega) _ (by omega) (by omega), e _ (by omega) (by omega) _ (by omega) (by omega), e _ (by omega) (by omega) _ (by omega) (by omega), ntN_lo (by omega), ntN_lo (by omega), ntN_lo (by omega)]
    exact r3 i h1 h2
  · unfold byP
    rw [e _ (by omega) (by omega) _ (by omega) (by omega), ntN_lo (by omega)]; exact r6 a ha
theorem CX.nt (C : CX h x (r, tl, tp, rf, ft, fp, sd) (M, mem, sh, ns, kd, cd) N (sl, nx, c, cr) (rn, rw_) (on_, ob)) (n32 : N 256 ≤ 32) (n40 : N 1377 ≤ 40) (w a b : Nat) : ∃ h1, f_X9_note (x + 3) (nI w) (nI a) (nI b) h = some ((), h1) ∧ CX h1 x (r, tl, tp, rf, ft, fp, sd) (M, mem, sh, ns, kd, cd) (ntN N w a b) (sl, nx, c, cr) (rn, rw_) (on_, ob) ∧ FC x h h1 := by
  have S := C.1
  have W := S.now
  have R := C.2.2.2.1
  have e7 : hI h (x + 3) 7 = nI (N 1377) := R.2.2.2.1
  by_cases c40 : N 1377 < 40
  · refine ⟨sI (sI (sI (sI h (x + 3 + 5) (N 1377 * 3) (nI w)) (x + 3 + 5) (N 1377 * 3 + 1) (nI a)) (x + 3 + 5) (N 1377 * 3 + 2) (nI b)) (x + 3) 7 (nI (N 1377 + 1)), ?_, C.nc1 ?_ rfl rfl (R.nt n32 (fun q _ _ j q1 q2 => ?_) ?_ (fun i h1 h2 => ?_))⟩
    · simp (disch := omega) only [nm, bd_s, ko_K, ka_K, koK_t, kaK_t, kr_s, kn_s, kn_n, hK_sI, hR_sI, hK_sL, hR_sL, hI_sL, hL_sI, hL_sL, hI_sI, hN_sI, hN_sL, ch_G, ch_T, nb_0, nb_1, zb_G, d_T, d_F, d_eT, d_eF, b2i_t, b2i_f, tn_nI, fa_lit, fa_litL, m1_e, nI_add, pk_mul, pk_sub, nI_leI, nI_ltI, nI_eq, le_T, le_F, lt_T, lt_F, eq_T, eq_F, if_pos, if_neg, m1_le, m1_lt', m1_gt, m1_le', m1_eq, m1_qe, b2i_eq0, in_N, in_n, in_I, ↓reduceIte, Bool.true_eq_false, Bool.false_eq_true, reduceCtorEq, decide_eq_true_eq, decide_eq_false_iff_not, Nat.not_lt, Nat.not_le, not_true_eq_false, not_false_eq_true, true_and, and_true, and_self, false_and, and_false, true_or, or_true, false_or, or_false, f_X9_note_30, f_X9_note, W.k, W.r4, W.k5, e7]
    · exact ((FX.sI (by unfold NC; omega)).trans (FX.sI (by unfold NC; omega))).trans ((FX.sI (by unfold NC; omega)).trans (FX.sI (by unfold NC; omega)))
    · rw [hI_sI, if_neg (by omega), hI_sI, if_neg (by omega), hI_sI, if_neg (by omega), hI_sI, if_neg (by omega)]
    · rw [hI_sI, if_pos ⟨rfl, rfl⟩, ntN_n, Nat.min_eq_right (by omega)]
    · rw [ntN_n, Nat.min_eq_right (by omega)] at h1
      rw [hI_sI, if_neg (by omega)]
      unfold ntN
      rw [if_neg (by omega), Nat.min_eq_right (by omega)]
      rw [hI_sI]
      by_cases z2 : i = N 1377 * 3 + 2
      · rw [if_pos ⟨rfl, z2⟩, if_neg (by omega), if_neg (by omega), if_pos (by omega)]
      · rw [if_neg (by omega), hI_sI]
        by_cases z1 : i = N 1377 * 3 + 1
        · rw [if_pos ⟨rfl, z1⟩, if_neg (by omega), if_pos (by omega)]
        · rw [if_neg (by omega), hI_sI]
          by_cases z0 : i = N 1377 * 3
          · rw [if_pos ⟨rfl, z0⟩, if_pos (by omega)]
          · rw [if_neg (by omega), if_neg (by omega), if_neg (by omega), if_neg (by omega), if_neg (by omega)]
            exact R.2.2.2.2.1 i (by omega) h2
  · have h40 : N 1377 = 40 := by omega
    rw [h40] at e7
    have ck : (¬ (3 : Int32) < 0 ∧ ¬ (0 : Int32) < 0 ∧ ¬ (117 : Int32) < 0 ∧ (3 : Int32).toNatClampNeg + (117 : Int32).toNatClampNeg ≤ 120 ∧ (0 : Int32).toNatClampNeg + (117 : Int32).toNatClampNeg ≤ 120) := by decide
    have n30 : ∀ g : aH, SS g (x + 3) → hI g (x + 3) 7 = nI 39 → f_X9_note_30 (x + 3) (nI w) (nI a) (nI b) g = some ((), sI (sI (sI (sI g (x + 3 + 5) 117 (nI w)) (x + 3 + 5) 118 (nI a)) (x + 3 + 5) 119 (nI b)) (x + 3) 7 (nI 40)) := by
      intro g G g7
      simp (disch := omega) only [nm, bd_s, ko_K, ka_K, koK_t, kaK_t, kr_s, kn_s, kn_n, hK_sI, hR_sI, hK_sL, hR_sL, hI_sL, hL_sI, hL_sL, hI_sI, hN_sI, hN_sL, ch_G, ch_T, nb_0, nb_1, zb_G, d_T, d_F, d_eT, d_eF, b2i_t, b2i_f, tn_nI, fa_lit, fa_litL, m1_e, nI_add, pk_mul, pk_sub, nI_leI, nI_ltI, nI_eq, le_T, le_F, lt_T, lt_F, eq_T, eq_F, if_pos, if_neg, m1_le, m1_lt', m1_gt, m1_le', m1_eq, m1_qe, b2i_eq0, in_N, in_n, in_I, ↓reduceIte, Bool.true_eq_false, Bool.false_eq_true, reduceCtorEq, decide_eq_true_eq, decide_eq_false_iff_not, Nat.not_lt, Nat.not_le, not_true_eq_false, not_false_eq_true, true_and, and_true, and_self, false_and, and_false, true_or, or_true, false_or, or_false, f_X9_note_30, G.k, G.r4, G.k5, g7, show 39 * 3 = 117 from rfl, show 117 + 1 = 118 from rfl, show 117 + 2 = 119 from rfl, show 39 + 1 = 40 from rfl]
    refine ⟨sI (sI (sI (sI (sI (acp h (x + 3 + 5) 3 (x + 3 + 5) 0 117) (x + 3) 7 (nI 39)) (x + 3 + 5) 117 (nI w)) (x + 3 + 5) 118 (nI a)) (x + 3 + 5) 119 (nI b)) (x + 3) 7 (nI 40), ?_, C.nc1 ?_ rfl rfl (R.nt n32 (fun q _ _ j q1 q2 => ?_) ?_ (fun i h1 h2 => ?_))⟩
    · have G : SS (sI (acp h (x + 3 + 5) 3 (x + 3 + 5) 0 117) (x + 3) 7 (nI 39)) (x + 3) := W.of rfl rfl
      have g7 : hI (sI (acp h (x + 3 + 5) 3 (x + 3 + 5) 0 117) (x + 3) 7 (nI 39)) (x + 3) 7 = nI 39 := by rw [hI_sI, if_pos ⟨rfl, rfl⟩]
      rw [← n30 _ G g7]
      have h1 : ¬ nI 40 < (40 : Int32) := by decide
      have kk : hK (acp h (x + 3 + 5) 3 (x + 3 + 5) 0 117) (x + 3) = some (.inl 9) := W.k
      simp only [f_X9_note, ko_t W.k, e7, if_neg h1, kr_t W.r4, ka_t W.k5, chk_t ck, nm, show (3 : Int32).toNatClampNeg = 3 by decide, show (0 : Int32).toNatClampNeg = 0 by decide, show (117 : Int32).toNatClampNeg = 117 by decide, ko_t kk]
      rfl
    · refine FX.trans (h1 := acp h (x + 3 + 5) 3 (x + 3 + 5) 0 117) ⟨rfl, fun _ _ _ => rfl, rfl, rfl, fun b j q => ?_, fun _ _ _ => rfl⟩ ((((FX.sI (by unfold NC; omega)).trans (FX.sI (by unfold NC; omega))).trans ((FX.sI (by unfold NC; omega)).trans (FX.sI (by unfold NC; omega)))).trans (FX.sI (by unfold NC; omega)))
      rw [hI_acp, if_neg]
      rintro ⟨rfl, z⟩
      exact q (by unfold NC; omega)
    · rw [hI_sI, if_neg (by omega), hI_sI, if_neg (by omega), hI_sI, if_neg (by omega), hI_sI, if_neg (by omega), hI_sI, if_neg (by omega), hI_acp, if_neg (by omega)]
    · rw [hI_sI, if_pos ⟨rfl, rfl⟩, ntN_n, h40]; rfl
    · rw [ntN_n, h40] at h1
      rw [hI_sI, if_neg (by omega)]
      unfold ntN
      rw [if_neg (by omega), h40, show min 39 40 = 39 from rfl]
      rw [hI_sI]
      by_cases z2 : i = 119
      · rw [if_pos ⟨rfl, z2⟩, if_neg (by omega), if_neg (by omega), if_pos (by omega)]
      · rw [if_neg (by omega), hI_sI]
        by_cases z1 : i = 118
        · rw [if_pos ⟨rfl, z1⟩, if_neg (by omega), if_pos (by omega)]
        · rw [if_neg (by omega), hI_sI]
          by_cases z0 : i = 117
          · rw [if_pos ⟨rfl, z0⟩, if_pos (by omega)]
          · rw [if_neg (by omega), if_neg (by omega), if_neg (by omega), if_neg (by omega), if_pos (by omega), hI_sI, if_neg (by omega), hI_acp, if_pos ⟨rfl, by omega, by omega⟩, R.2.2.2.2.1 (3 + (i - 0)) (by omega) (by omega)]
            rw [show 1378 + (3 + (i - 0)) = 1378 + i + 3 by omega]
/-- shifted by the reference: i of 117 -/
def mSh (h : aH) (m i : Nat) : aH := fb h (m + 34) 1378 i (fun j => hI h (m + 34) (1378 + j + 3))
theorem CM.nt (Q : CM h (x + 107) (r, tl, tp, rf, ft, fp, sd) (M, mem, sh, ns, kd, cd) N (sl, nx, c, cr) (rn, rw_) (on_, ob)) (n40 : N 1377 ≤ 40) (w a b : Nat) : ∃ h1, f_X12_isKept (x + 107) (nI w) (nI a) (nI b) h = some ((), h1) ∧ CM h1 (x + 107) (r, tl, tp, rf, ft, fp, sd) (M, mem, sh, ns, kd, cd) (ntN N w a b) (sl, nx, c, cr) (rn, rw_) (on_, ob) ∧ FM x h h1 := by
  have T := Q.1
  have e7 : hI h (x + 107 + 34) 1377 = nI (N 1377) := Q.n (by omega) (by omega)
  have n63 : ∀ (g : aH) (n : Nat), MS g (x + 107) → 1 ≤ n → n ≤ 40 → hI g (x + 107 + 34) 1377 = nI n → f_X12_isKept_63 (x + 107) (nI w) (nI a) (nI b) g = some ((), sI (sI (sI g (x + 107 + 34) (1375 + 3 * n) (nI w)) (x + 107 + 34) (1375 + 3 * n + 1) (nI a)) (x + 107 + 34) (1375 + 3 * n + 2) (nI b)) := by
    intro g n G n1 n2 g7
    have e1 : 1378 + 3 * n - 3 = 1375 + 3 * n := by omega
    simp (disch := omega) only [nm, bd_s, ko_K, ka_K, koK_t, kaK_t, kr_s, kn_s, kn_n, hK_sI, hR_sI, hK_sL, hR_sL, hI_sL, hL_sI, hL_sL, hI_sI, hN_sI, hN_sL, ch_G, ch_T, nb_0, nb_1, zb_G, d_T, d_F, d_eT, d_eF, b2i_t, b2i_f, tn_nI, fa_lit, fa_litL, m1_e, nI_add, pk_mul, pk_sub, nI_leI, nI_ltI, nI_eq, le_T, le_F, lt_T, lt_F, eq_T, eq_F, if_pos, if_neg, m1_le, m1_lt', m1_gt, m1_le', m1_eq, m1_qe, b2i_eq0, in_N, in_n, in_I, ↓reduceIte, Bool.true_eq_false, Bool.false_eq_true, reduceCtorEq, decide_eq_true_eq, decide_eq_false_iff_not, Nat.not_lt, Nat.not_le, not_true_eq_false, not_false_eq_true, true_and, and_true, and_self, false_and, and_false, true_or, or_true, false_or, or_false, f_X12_isKept_63, G.k, G.r47, G.k47, g7, e1]
  have mn3 : ∀ j, 1377 ≤ j → mN (ntN N w a b) j = nI (ntN N w a b j) := fun j hj => mN_n (by omega)
  by_cases c40 : N 1377 = 40
  · have L1 := (loop_itr (fun k i (_ : Unit) => f_X12_isKept_18 k (x + 107) (nI w) (nI a) (nI b) (nI (1378 + i)) (mSh h (x + 107) i)) 117 (fun _ u => u) (fun _ => ((), sI (sI (sI (mSh h (x + 107) 117) (x + 107 + 34) 1495 (nI w)) (x + 107 + 34) 1496 (nI a)) (x + 107 + 34) 1497 (nI b))) (fun _ _ => True) (fun k i _ hi _ => ⟨?_, trivial⟩) (fun k _ _ => ?_) 117 0 () FU (by omega) trivial (FU_gt (by omega))).1
    · rw [show mSh h (x + 107) 0 = h from fb_0] at L1
      refine ⟨sI (sI (sI (mSh h (x + 107) 117) (x + 107 + 34) 1495 (nI w)) (x + 107 + 34) 1496 (nI a)) (x + 107 + 34) 1497 (nI b), ?_, Q.nc rfl rfl (fun b j _ q => ?_) rfl (fun _ _ => rfl) (fun j hj => ?_), ?_⟩
      · rw [c40] at e7
        rw [← L1]
        simp (disch := omega) only [nm, bd_s, ko_K, ka_K, koK_t, kaK_t, kr_s, kn_s, kn_n, hK_sI, hR_sI, hK_sL, hR_sL, hI_sL, hL_sI, hL_sL, hI_sI, hN_sI, hN_sL, ch_G, ch_T, nb_0, nb_1, zb_G, d_T, d_F, d_eT, d_eF, b2i_t, b2i_f, tn_nI, fa_lit, fa_litL, m1_e, nI_add, pk_mul, pk_sub, nI_leI, nI_ltI, nI_eq, le_T, le_F, lt_T, lt_F, eq_T, eq_F, if_pos, if_neg, m1_le, m1_lt', m1_gt, m1_le', m1_eq, m1_qe, b2i_eq0, in_N, in_n, in_I, ↓reduceIte, Bool.true_eq_false, Bool.false_eq_true, reduceCtorEq, decide_eq_true_eq, decide_eq_false_iff_not, Nat.not_lt, Nat.not_le, not_true_eq_false, not_false_eq_true, true_and, and_true, and_self, false_and, and_false, true_or, or_true, false_or, or_false, f_X12_isKept, T.k, T.r47, T.k47, e7, Nat.add_zero]
      · rw [hI_sI, if_neg (by omega), hI_sI, if_neg (by omega), hI_sI, if_neg (by omega)]; unfold mSh; rw [hI_fb, if_neg (by omega)]
      · by_cases lo : j < 1377
        · rw [hI_sI, if_neg (by omega), hI_sI, if_neg (by omega), hI_sI, if_neg (by omega)]; unfold mSh; rw [hI_fb, if_neg (by omega), Q.2.2.2.1 j hj]
          unfold mN; rw [ntN_lo lo]
        · rw [mn3 j (by omega), hI_sI]
          unfold ntN
          rw [c40, show min 39 40 = 39 from rfl]
          by_cases z7 : j = 1377
          · rw [if_neg (by omega), hI_sI, if_neg (by omega), hI_sI, if_neg (by omega), if_pos z7]; unfold mSh; rw [hI_fb, if_neg (by omega), z7, e7, c40]; rfl
          · by_cases z2 : j = 1497
            · rw [if_pos ⟨rfl, z2⟩, if_neg z7, if_neg (by omega), if_neg (by omega), if_pos (by omega)]
            · rw [if_neg (by omega), hI_sI]
              by_cases z1 : j = 1496
              · rw [if_pos ⟨rfl, z1⟩, if_neg z7, if_neg (by omega), if_pos (by omega)]
              · rw [if_neg (by omega), hI_sI]
                by_cases z0 : j = 1495
                · rw [if_pos ⟨rfl, z0⟩, if_neg z7, if_pos (by omega)]
                · rw [if_neg (by omega), if_neg z7, if_neg (by omega), if_neg (by omega), if_neg (by omega), if_pos (by omega)]
                  unfold mSh; rw [hI_fb, if_pos ⟨rfl, by omega, by omega⟩, show 1378 + (j - 1378) + 3 = j + 3 by omega]
                  exact Q.n (by omega) (by omega)
      · exact (((FM.fb (by omega) (by omega)).trans (FM.sI (by omega) (by omega))).trans (FM.sI (by omega) (by omega))).trans (FM.sI (by omega) (by omega))
    · have G : MS (mSh h (x + 107) i) (x + 107) := T.of rfl rfl
      have v : hI (mSh h (x + 107) i) (x + 107 + 34) (1378 + i + 3) = hI h (x + 107 + 34) (1378 + i + 3) := by unfold mSh; rw [hI_fb, if_neg (by omega)]
      have nx := fb_next (h := h) (a := x + 107 + 34) (t := 1378) (i := i) (f := fun j => hI h (x + 107 + 34) (1378 + j + 3))
      rw [show fb h (x + 107 + 34) 1378 i (fun j => hI h (x + 107 + 34) (1378 + j + 3)) = mSh h (x + 107) i from rfl, show fb h (x + 107 + 34) 1378 (i + 1) (fun j => hI h (x + 107 + 34) (1378 + j + 3)) = mSh h (x + 107) (i + 1) from rfl] at nx
      show _ = f_X12_isKept_18 k (x + 107) (nI w) (nI a) (nI b) (nI (1378 + i + 1)) _
      simp (disch := omega) only [nm, bd_s, ko_K, ka_K, koK_t, kaK_t, kr_s, kn_s, kn_n, hK_sI, hR_sI, hK_sL, hR_sL, hI_sL, hL_sI, hL_sL, hI_sI, hN_sI, hN_sL, ch_G, ch_T, nb_0, nb_1, zb_G, d_T, d_F, d_eT, d_eF, b2i_t, b2i_f, tn_nI, fa_lit, fa_litL, m1_e, nI_add, pk_mul, pk_sub, nI_leI, nI_ltI, nI_eq, le_T, le_F, lt_T, lt_F, eq_T, eq_F, if_pos, if_neg, m1_le, m1_lt', m1_gt, m1_le', m1_eq, m1_qe, b2i_eq0, in_N, in_n, in_I, ↓reduceIte, Bool.true_eq_false, Bool.false_eq_true, reduceCtorEq, decide_eq_true_eq, decide_eq_false_iff_not, Nat.not_lt, Nat.not_le, not_true_eq_false, not_false_eq_true, true_and, and_true, and_self, false_and, and_false, true_or, or_true, false_or, or_false, f_X12_isKept_18, b_X12_isKept_18, G.k, G.r47, G.k47, v, nx]
    · have G : MS (mSh h (x + 107) 117) (x + 107) := T.of rfl rfl
      have g7 : hI (mSh h (x + 107) 117) (x + 107 + 34) 1377 = nI 40 := by unfold mSh; rw [hI_fb, if_neg (by omega), e7, c40]
      have st := n63 _ 40 G (by omega) (by omega) g7
      simp (disch := omega) only [nm, bd_s, ko_K, ka_K, koK_t, kaK_t, kr_s, kn_s, kn_n, hK_sI, hR_sI, hK_sL, hR_sL, hI_sL, hL_sI, hL_sL, hI_sI, hN_sI, hN_sL, ch_G, ch_T, nb_0, nb_1, zb_G, d_T, d_F, d_eT, d_eF, b2i_t, b2i_f, tn_nI, fa_lit, fa_litL, m1_e, nI_add, pk_mul, pk_sub, nI_leI, nI_ltI, nI_eq, le_T, le_F, lt_T, lt_F, eq_T, eq_F, if_pos, if_neg, m1_le, m1_lt', m1_gt, m1_le', m1_eq, m1_qe, b2i_eq0, in_N, in_n, in_I, ↓reduceIte, Bool.true_eq_false, Bool.false_eq_true, reduceCtorEq, decide_eq_true_eq, decide_eq_false_iff_not, Nat.not_lt, Nat.not_le, not_true_eq_false, not_false_eq_true, true_and, and_true, and_self, false_and, and_false, true_or, or_true, false_or, or_false, f_X12_isKept_18, b_X12_isKept_18, st]
  · have G : MS (sI h (x + 107 + 34) 1377 (nI (N 1377 + 1))) (x + 107) := T.of rfl rfl
    have st := n63 _ (N 1377 + 1) G (by omega) (by omega) (by rw [hI_sI, if_pos ⟨rfl, rfl⟩])
    refine ⟨sI (sI (sI (sI h (x + 107 + 34) 1377 (nI (N 1377 + 1))) (x + 107 + 34) (1375 + 3 * (N 1377 + 1)) (nI w)) (x + 107 + 34) (1375 + 3 * (N 1377 + 1) + 1) (nI a)) (x + 107 + 34) (1375 + 3 * (N 1377 + 1) + 2) (nI b), ?_, Q.nc rfl rfl (fun b j _ q => ?_) rfl (fun _ _ => rfl) (fun j hj => ?_), ?_⟩
    · simp (disch := omega) only [nm, bd_s, ko_K, ka_K, koK_t, kaK_t, kr_s, kn_s, kn_n, hK_sI, hR_sI, hK_sL, hR_sL, hI_sL, hL_sI, hL_sL, hI_sI, hN_sI, hN_sL, ch_G, ch_T, nb_0, nb_1, zb_G, d_T, d_F, d_eT, d_eF, b2i_t, b2i_f, tn_nI, fa_lit, fa_litL, m1_e, nI_add, pk_mul, pk_sub, nI_leI, nI_ltI, nI_eq, le_T, le_F, lt_T, lt_F, eq_T, eq_F, if_pos, if_neg, m1_le, m1_lt', m1_gt, m1_le', m1_eq, m1_qe, b2i_eq0, in_N, in_n, in_I, ↓reduceIte, Bool.true_eq_false, Bool.false_eq_true, reduceCtorEq, decide_eq_true_eq, decide_eq_false_iff_not, Nat.not_lt, Nat.not_le, not_true_eq_false, not_false_eq_true, true_and, and_true, and_self, false_and, and_false, true_or, or_true, false_or, or_false, f_X12_isKept, T.k, T.r47, T.k47, e7, c40, st]
    · rw [hI_sI, if_neg (by omega), hI_sI, if_neg (by omega), hI_sI, if_neg (by omega), hI_sI, if_neg (by omega)]
    · by_cases lo : j < 1377
      · rw [hI_sI, if_neg (by omega), hI_sI, if_neg (by omega), hI_sI, if_neg (by omega), hI_sI, if_neg (by omega), Q.2.2.2.1 j hj]
        unfold mN; rw [ntN_lo lo]
      · rw [mn3 j (by omega), hI_sI]
        unfold ntN
        rw [Nat.min_eq_right (show N 1377 + 1 ≤ 40 by omega), Nat.min_eq_right (show N 1377 ≤ 39 by omega)]
        by_cases z7 : j = 1377
        · rw [if_neg (by omega), hI_sI, if_neg (by omega), hI_sI, if_neg (by omega), hI_sI, if_pos ⟨rfl, z7⟩, if_pos z7]
        · by_cases z2 : j = 1375 + 3 * (N 1377 + 1) + 2
          · rw [if_pos ⟨rfl, z2⟩, if_neg z7, if_neg (by omega), if_neg (by omega), if_pos (by omega)]
          · rw [if_neg (by omega), hI_sI]
            by_cases z1 : j = 1375 + 3 * (N 1377 + 1) + 1
            · rw [if_pos ⟨rfl, z1⟩, if_neg z7, if_neg (by omega), if_pos (by omega)]
            · rw [if_neg (by omega), hI_sI]
              by_cases z0 : j = 1375 + 3 * (N 1377 + 1)
              · rw [if_pos ⟨rfl, z0⟩, if_neg z7, if_pos (by omega)]
              · rw [if_neg (by omega), if_neg z7, if_neg (by omega), if_neg (by omega), if_neg (by omega), if_neg (by omega), hI_sI, if_neg (by omega)]
                exact Q.n (by omega) (by omega)
    · exact (((FM.sI (by omega) (by omega)).trans (FM.sI (by omega) (by omega))).trans (FM.sI (by omega) (by omega))).trans (FM.sI (by omega) (by omega))
end Nt
