/-! on: objects, the class -/
section On2b
variable {h : aH} {x r tl : Nat} {tp : Nat → Nat} {rf : Nat → Int32} {ft fp : Int32} {sd : Nat} {M mem sh : Nat} {ns : Nat → List Nat} {kd : Nat → Nat} {cd : Nat → List Nat} {N : tyN} {sl : Nat → tyN} {nx c cr : Nat} {rn : Nat} {rw_ : Nat → Nat} {on_ : Nat} {ob : Nat → Nat}
/-- what stands in the draft ahead of object i -/
def dO (h : aH) (x : Nat) (N' : tyN) (tp : Nat → Nat) (sh i : Nat) : Prop := (∀ k, k < 32 → PS h (x + 42 + 7 + k) N' (8 * k)) ∧ hI h (x + 42) 6 = nI i ∧ (∀ k, k < i → hI h (x + 42 + 2) k = nI (bT tp sh k) ∧ hI h (x + 42 + 3) k = nI (lT tp sh k) ∧ hI h (x + 42 + 4) k = nI (aT tp sh k) ∧ bT tp sh k ≤ 1024 ∧ lT tp sh k ≤ 1024) ∧ hI h (x + 42) 7 = nI 0 ∧ ∀ a, a < 1024 → byP h (x + 42 + 6) a = nI 0
theorem c_objsT (O : Ok (r, tl, tp, rf, ft, fp, sd) (M, mem, sh, ns, kd, cd) N (sl, nx, c, cr) (rn, rw_) (on_, ob)) (hr : r = 1) {a o : Nat} (o32 : o ≤ 32) : ∀ (j i n : Nat) (hh : aH), i + j = o → j < n → CX hh x (r, 0, tp, rf, ft, fp, sd) (M, mem, sh, ns, kd, cd) N (sl, nx, c, cr) (rn, rw_) (on_, ob) → hR hh x 9 = some a → dO hh x (onN sh tp N) tp sh i → ∃ h1, FX x (DR x) hh h1 ∧ hR h1 = hR hh ∧ hL h1 = hL hh ∧ ((∀ k, i ≤ k → k < o → obP M mem sh tp k) → f_X3_read_150 n (x + 1) (x + 42) a (nI (16 + 4 * sh)) (nI o) (nI i) hh = some (nI 1, h1) ∧ dO h1 x (onN sh tp N) tp sh o) ∧ (¬ (∀ k, i ≤ k → k < o → obP M mem sh tp k) → f_X3_read_150 n (x + 1) (x + 42) a (nI (16 + 4 * sh)) (nI o) (nI i) hh = some (nI 0, h1)) := by
  obtain ⟨h4, h8, -, mm, s4, -⟩ := O.okb hr
  have tb : ∀ j, tp j ≤ 255 := O.1.2.1
  intro j
  induction j with
  | zero =>
    intro i n hh hi hn C h9 D
    obtain ⟨n, rfl⟩ : ∃ k, n = k + 1 := ⟨n - 1, by omega⟩
    have hi : i = o := by omega
    subst hi
    refine ⟨hh, FX.refl _ _ _, rfl, rfl, fun _ => ⟨?_, D⟩, fun z => absurd (fun k h1 h2 => by omega) z⟩
    simp (disch := omega) only [nm, bd_s, ko_K, ka_K, koK_t, kaK_t, kr_s, kn_s, kn_n, hK_sI, hR_sI, hK_sL, hR_sL, hI_sL, hL_sI, hL_sL, hI_sI, hN_sI, hN_sL, ch_G, ch_T, nb_0, nb_1, zb_G, d_T, d_F, d_eT, d_eF, b2i_t, b2i_f, tn_nI, fa_lit, fa_litL, m1_e, nI_add, pk_mul, pk_sub, nI_leI, nI_ltI, nI_eq, le_T, le_F, lt_T, lt_F, eq_T, eq_F, if_pos, if_neg, m1_le, m1_lt', m1_gt, m1_le', m1_eq, m1_qe, b2i_eq0, in_N, in_n, in_I, ↓reduceIte, Bool.true_eq_false, Bool.false_eq_true, reduceCtorEq, decide_eq_true_eq, decide_eq_false_iff_not, Nat.not_lt, Nat.not_le, not_true_eq_false, not_false_eq_true, true_and, and_true, and_self, false_and, and_false, true_or, or_true, false_or, or_false, f_X3_read_150, b_X3_read_150]
  | succ j ih =>
    intro i n hh hi hn C h9 D
    obtain ⟨n, rfl⟩ : ∃ k, n = k + 1 := ⟨n - 1, by omega⟩
    have S := C.1
    have W := S.draft
    obtain ⟨a', ha, h9', A, B⟩ := C.run hr
    rw [h9] at h9'
    cases h9'
    have b1 : hI hh a 1 = nI mem := B.1
    have b2 : hI hh a 2 = nI M := B.2.1
    have hb := C.2.1.2.2.1
    obtain ⟨d1, d6, d2, d7, d5⟩ := id D
    have w1 : f_X3_twoAt (x + 1) (nI (8 * (16 + 4 * sh) + 1 + 6 * i)) hh = some (nI (bT tp sh i), hh) := c_two S hb tb (by omega)
    have w2 : f_X3_twoAt (x + 1) (nI (8 * (16 + 4 * sh) + 1 + 6 * i) + 2) hh = some (nI (lT tp sh i), hh) := by rw [show nI (8 * (16 + 4 * sh) + 1 + 6 * i) + 2 = nI (8 * (16 + 4 * sh) + 1 + 6 * i + 2) from nI_add _ 2]; exact c_two S hb tb (by omega)
    have w3 : f_X3_twoAt (x + 1) (nI (8 * (16 + 4 * sh) + 1 + 6 * i) + 4) hh = some (nI (aT tp sh i), hh) := by rw [show nI (8 * (16 + 4 * sh) + 1 + 6 * i) + 4 = nI (8 * (16 + 4 * sh) + 1 + 6 * i + 4) from nI_add _ 4]; exact c_two S hb tb (by omega)
    have t1 : bT tp sh i ≤ 65535 := tw_le tb _
    have t2 : lT tp sh i ≤ 65535 := tw_le tb _
    have t3 : aT tp sh i ≤ 65535 := tw_le tb _
    have gs := s_gapStart (h := hh) (s := x + 42) (n := i) (B := bT tp sh) (L := lT tp sh) W ⟨d6, by omega, fun k hk => ⟨(d2 k hk).1, (d2 k hk).2.1, (d2 k hk).2.2.2.1, (d2 k hk).2.2.2.2⟩⟩ (Nat.le_refl i)
    have gs : f_X9_gapStart (x + 42) (hI hh (x + 42) 6) hh = some (nI (gst (bT tp sh) (lT tp sh) i), hh) := by rw [d6]; exact gs
    have gl : gst (bT tp sh) (lT tp sh) i ≤ 4096 := by
      unfold gst; split
      · omega
      · have := d2 (i - 1) (by omega); omega
    have no : ∀ h1, f_X3_readObject (x + 1) (nI (8 * (16 + 4 * sh) + 1 + 6 * i)) (x + 42) a hh = some (nI 0, h1) → h1 = hh → ¬ obP M mem sh tp i → ∃ h1, FX x (DR x) hh h1 ∧ hR h1 = hR hh ∧ hL h1 = hL hh ∧ ((∀ k, i ≤ k → k < o → obP M mem sh tp k) → f_X3_read_150 (n + 1) (x + 1) (x + 42) a (nI (16 + 4 * sh)) (nI o) (nI i) hh = some (nI 1, h1) ∧ dO h1 x (onN sh tp N) tp sh o) ∧ (¬ (∀ k, i ≤ k → k < o → obP M mem sh tp k) → f_X3_read_150 (n + 1) (x + 1) (x + 42) a (nI (16 + 4 * sh)) (nI o) (nI i) hh = some (nI 0, h1)) := by
      intro h1 e1 eh np
      subst eh
      refine ⟨h1, FX.refl _ _ _, rfl, rfl, fun z => absurd (z i (by omega) (by omega)) np, fun _ => ?_⟩
      simp (disch := omega) only [nm, bd_s, ko_K, ka_K, koK_t, kaK_t, kr_s, kn_s, kn_n, hK_sI, hR_sI, hK_sL, hR_sL, hI_sL, hL_sI, hL_sL, hI_sI, hN_sI, hN_sL, ch_G, ch_T, nb_0, nb_1, zb_G, d_T, d_F, d_eT, d_eF, b2i_t, b2i_f, tn_nI, fa_lit, fa_litL, m1_e, nI_add, pk_mul, pk_sub, nI_leI, nI_ltI, nI_eq, le_T, le_F, lt_T, lt_F, eq_T, eq_F, if_pos, if_neg, m1_le, m1_lt', m1_gt, m1_le', m1_eq, m1_qe, b2i_eq0, in_N, in_n, in_I, ↓reduceIte, Bool.true_eq_false, Bool.false_eq_true, reduceCtorEq, decide_eq_true_eq, decide_eq_false_iff_not, Nat.not_lt, Nat.not_le, not_true_eq_false, not_false_eq_true, true_and, and_true, and_self, false_and, and_false, true_or, or_true, false_or, or_false, f_X3_read_150, b_X3_read_150, e1]
    by_cases c1 : gst (bT tp sh) (lT tp sh) i ≤ bT tp sh i
    · by_cases c2 : bT tp sh i + lT tp sh i ≤ mem
      · by_cases c3 : 1 ≤ aT tp sh i
        · by_cases c4 : aT tp sh i ≤ lT tp sh i
          · have st := c_stays (h := hh) (b := bT tp sh i) (l := lT tp sh i) (M := M) (by omega) h4 h8
            rw [show (decide (dnN (bT tp sh i) (lexN (bT tp sh i) (bT tp sh i + lT tp sh i) M) = bT tp sh i) && decide (upN (bT tp sh i + lT tp sh i) (lexN (bT tp sh i) (bT tp sh i + lT tp sh i) M) = bT tp sh i + lT tp sh i)) = exT M (bT tp sh i) (lT tp sh i) from rfl] at st
            have st : f_X6_staysAsAsked (nI (bT tp sh i)) (nI (lT tp sh i)) (hI hh a 2) hh = some (b2i (exT M (bT tp sh i) (lT tp sh i)), hh) := by rw [b2]; exact st
            by_cases c5 : exT M (bT tp sh i) (lT tp sh i) = true
            · have pp : obP M mem sh tp i := ⟨c1, c2, c3, c4, c5⟩
              rw [c5, b2i_t] at st
              obtain ⟨g, hg⟩ : ∃ g, g = sI (sI (sI (sI hh (x + 42 + 2) i (nI (bT tp sh i))) (x + 42 + 3) i (nI (lT tp sh i))) (x + 42 + 4) i (nI (aT tp sh i))) (x + 42) 6 (nI (i + 1)) := ⟨_, rfl⟩
              have ro : f_X3_readObject (x + 1) (nI (8 * (16 + 4 * sh) + 1 + 6 * i)) (x + 42) a hh = some (nI 1, g) := by
                rw [hg]
                generalize bT tp sh i = b at *
                generalize lT tp sh i = l at *
                generalize aT tp sh i = q at *
                generalize gst (bT tp sh) (lT tp sh) i = gg at *
                simp (disch := omega) only [nm, bd_s, ko_K, ka_K, koK_t, kaK_t, kr_s, kn_s, kn_n, hK_sI, hR_sI, hK_sL, hR_sL, hI_sL, hL_sI, hL_sL, hI_sI, hN_sI, hN_sL, ch_G, ch_T, nb_0, nb_1, zb_G, d_T, d_F, d_eT, d_eF, b2i_t, b2i_f, tn_nI, fa_lit, fa_litL, m1_e, nI_add, pk_mul, pk_sub, nI_leI, nI_ltI, nI_eq, le_T, le_F, lt_T, lt_F, eq_T, eq_F, if_pos, if_neg, m1_le, m1_lt', m1_gt, m1_le', m1_eq, m1_qe, b2i_eq0, in_N, in_n, in_I, ↓reduceIte, Bool.true_eq_false, Bool.false_eq_true, reduceCtorEq, decide_eq_true_eq, decide_eq_false_iff_not, Nat.not_lt, Nat.not_le, not_true_eq_false, not_false_eq_true, true_and, and_true, and_self, false_and, and_false, true_or, or_true, false_or, or_false, f_X3_readObject_81, f_X3_readObject, ↓nm, ↓bd_t w1, ↓bd_t w2, ↓bd_t w3, ↓bd_t gs, ↓bd_t st, ↓ko_t W.k, ↓ko_t A.k, ↓kr_t W.r1, ↓kr_t W.r2, ↓kr_t W.r3, ↓ka_t W.k2, ↓ka_t W.k3, ↓ka_t W.k4, d6, b1, b2]
              have fx : FX x (DR x) hh g := by
                rw [hg]
                exact (((FX.sI (by unfold DR; omega)).trans (FX.sI (by unfold DR; omega))).trans (FX.sI (by unfold DR; omega))).trans (FX.sI (by unfold DR; omega))
              have fr : hR g = hR hh := by rw [hg]; rfl
              have fl : hL g = hL hh := by rw [hg]; rfl
              obtain ⟨C1, -⟩ := C.sc1 (fx.mono (fun b j q => by unfold DR at q; unfold SC; omega)) fr fl
              have D1 : dO g x (onN sh tp N) tp sh (i + 1) := by
                have oth : ∀ b j, ¬ (b = x + 42 + 2 ∨ b = x + 42 + 3 ∨ b = x + 42 + 4) → ¬ (b = x + 42 ∧ j = 6) → hI g b j = hI hh b j := fun b j q1 q2 => by
                  rw [hg, hI_sI, if_neg (by omega), hI_sI, if_neg (by omega), hI_sI, if_neg (by omega), hI_sI, if_neg (by omega)]
                refine ⟨fun k hk => (d1 k hk).fr (fun j _ => oth _ j (by omega) (by omega)), by rw [hg, hI_sI, if_pos ⟨rfl, rfl⟩], fun k hk => ?_, by rw [oth _ _ (by omega) (by omega)]; exact d7, fun a ha => by unfold byP; rw [oth _ _ (by omega) (by omega)]; exact d5 a ha⟩
                by_cases z : k = i
                · subst z
                  refine ⟨?_, ?_, ?_, by omega, by omega⟩
                  · rw [hg, hI_sI, if_neg (by omega), hI_sI, if_neg (by omega), hI_sI, if_neg (by omega), hI_sI, if_pos ⟨rfl, rfl⟩]
                  · rw [hg, hI_sI, if_neg (by omega), hI_sI, if_neg (by omega), hI_sI, if_pos ⟨rfl, rfl⟩]
                  · rw [hg, hI_sI, if_neg (by omega), hI_sI, if_pos ⟨rfl, rfl⟩]
                · have := d2 k (by omega)
                  refine ⟨?_, ?_, ?_, this.2.2.2.1, this.2.2.2.2⟩
                  · rw [hg, hI_sI, if_neg (by omega), hI_sI, if_neg (by omega), hI_sI, if_neg (by omega), hI_sI, if_neg (by omega)]; exact this.1
                  · rw [hg, hI_sI, if_neg (by omega), hI_sI, if_neg (by omega), hI_sI, if_neg (by omega), hI_sI, if_neg (by omega)]; exact this.2.1
                  · rw [hg, hI_sI, if_neg (by omega), hI_sI, if_neg (by omega), hI_sI, if_neg (by omega), hI_sI, if_neg (by omega)]; exact this.2.2.1
              obtain ⟨h1, i1, i2, i3, i4, i5⟩ := ih (i + 1) n g (by omega) (by omega) C1 (by rw [fr]; exact h9) D1
              have go : f_X3_read_150 (n + 1) (x + 1) (x + 42) a (nI (16 + 4 * sh)) (nI o) (nI i) hh = f_X3_read_150 n (x + 1) (x + 42) a (nI (16 + 4 * sh)) (nI o) (nI (i + 1)) g := by
                simp (disch := omega) only [nm, bd_s, ko_K, ka_K, koK_t, kaK_t, kr_s, kn_s, kn_n, hK_sI, hR_sI, hK_sL, hR_sL, hI_sL, hL_sI, hL_sL, hI_sI, hN_sI, hN_sL, ch_G, ch_T, nb_0, nb_1, zb_G, d_T, d_F, d_eT, d_eF, b2i_t, b2i_f, tn_nI, fa_lit, fa_litL, m1_e, nI_add, pk_mul, pk_sub, nI_leI, nI_ltI, nI_eq, le_T, le_F, lt_T, lt_F, eq_T, eq_F, if_pos, if_neg, m1_le, m1_lt', m1_gt, m1_le', m1_eq, m1_qe, b2i_eq0, in_N, in_n, in_I, ↓reduceIte, Bool.true_eq_false, Bool.false_eq_true, reduceCtorEq, decide_eq_true_eq, decide_eq_false_iff_not, Nat.not_lt, Nat.not_le, not_true_eq_false, not_false_eq_true, true_and, and_true, and_self, false_and, and_false, true_or, or_true, false_or, or_false, f_X3_read_150, b_X3_read_150, ro]
              rw [go]
              refine ⟨h1, fx.trans i1, i2.trans fr, i3.trans fl, fun z => i4 (fun k q1 q2 => z k (by omega) q2), fun z => i5 (fun y => z (fun k q1 q2 => ?_))⟩
              by_cases e : k = i
              · rw [e]; exact pp
              · exact y k (by omega) q2
            · rw [ts_nt c5, b2i_f] at st
              refine no hh ?_ rfl (fun z => c5 z.2.2.2.2)
              generalize bT tp sh i = b at *
              generalize lT tp sh i = l at *
              generalize aT tp sh i = q at *
              generalize gst (bT tp sh) (lT tp sh) i = gg at *
              simp (disch := omega) only [nm, bd_s, ko_K, ka_K, koK_t, kaK_t, kr_s, kn_s, kn_n, hK_sI, hR_sI, hK_sL, hR_sL, hI_sL, hL_sI, hL_sL, hI_sI, hN_sI, hN_sL, ch_G, ch_T, nb_0, nb_1, zb_G, d_T, d_F, d_eT, d_eF, b2i_t, b2i_f, tn_nI, fa_lit, fa_litL, m1_e, nI_add, pk_mul, pk_sub, nI_leI, nI_ltI, nI_eq, le_T, le_F, lt_T, lt_F, eq_T, eq_F, if_pos, if_neg, m1_le, m1_lt', m1_gt, m1_le', m1_eq, m1_qe, b2i_eq0, in_N, in_n, in_I, ↓reduceIte, Bool.true_eq_false, Bool.false_eq_true, reduceCtorEq, decide_eq_true_eq, decide_eq_false_iff_not, Nat.not_lt, Nat.not_le, not_true_eq_false, not_false_eq_true, true_and, and_true, and_self, false_and, and_false, true_or, or_true, false_or, or_false, f_X3_readObject_81, f_X3_readObject, ↓nm, ↓bd_t w1, ↓bd_t w2, ↓bd_t w3, ↓bd_t gs, ↓bd_t st, ↓ko_t W.k, ↓ko_t A.k, d6, b1, b2]
          · refine no hh ?_ rfl (fun z => c4 z.2.2.2.1)
            generalize bT tp sh i = b at *
            generalize lT tp sh i = l at *
            generalize aT tp sh i = q at *
            generalize gst (bT tp sh) (lT tp sh) i = gg at *
            simp (disch := omega) only [nm, bd_s, ko_K, ka_K, koK_t, kaK_t, kr_s, kn_s, kn_n, hK_sI, hR_sI, hK_sL, hR_sL, hI_sL, hL_sI, hL_sL, hI_sI, hN_sI, hN_sL, ch_G, ch_T, nb_0, nb_1, zb_G, d_T, d_F, d_eT, d_eF, b2i_t, b2i_f, tn_nI, fa_lit, fa_litL, m1_e, nI_add, pk_mul, pk_sub, nI_leI, nI_ltI, nI_eq, le_T, le_F, lt_T, lt_F, eq_T, eq_F, if_pos, if_neg, m1_le, m1_lt', m1_gt, m1_le', m1_eq, m1_qe, b2i_eq0, in_N, in_n, in_I, ↓reduceIte, Bool.true_eq_false, Bool.false_eq_true, reduceCtorEq, decide_eq_true_eq, decide_eq_false_iff_not, Nat.not_lt, Nat.not_le, not_true_eq_false, not_false_eq_true, true_and, and_true, and_self, false_and, and_false, true_or, or_true, false_or, or_false, f_X3_readObject_81, f_X3_readObject, ↓nm, ↓bd_t w1, ↓bd_t w2, ↓bd_t w3, ↓bd_t gs, ↓ko_t W.k, ↓ko_t A.k, d6, b1, b2]
        · refine no hh ?_ rfl (fun z => c3 z.2.2.1)
          generalize bT tp sh i = b at *
          generalize lT tp sh i = l at *
          generalize aT tp sh i = q at *
          generalize gst (bT tp sh) (lT tp sh) i = gg at *
          simp (disch := omega) only [nm, bd_s, ko_K, ka_K, koK_t, kaK_t, kr_s, kn_s, kn_n, hK_sI, hR_sI, hK_sL, hR_sL, hI_sL, hL_sI, hL_sL, hI_sI, hN_sI, hN_sL, ch_G, ch_T, nb_0, nb_1, zb_G, d_T, d_F, d_eT, d_eF, b2i_t, b2i_f, tn_nI, fa_lit, fa_litL, m1_e, nI_add, pk_mul, pk_sub, nI_leI, nI_ltI, nI_eq, le_T, le_F, lt_T, lt_F, eq_T, eq_F, if_pos, if_neg, m1_le, m1_lt', m1_gt, m1_le', m1_eq, m1_qe, b2i_eq0, in_N, in_n, in_I, ↓reduceIte, Bool.true_eq_false, Bool.false_eq_true, reduceCtorEq, decide_eq_true_eq, decide_eq_false_iff_not, Nat.not_lt, Nat.not_le, not_true_eq_false, not_false_eq_true, true_and, and_true, and_self, false_and, and_false, true_or, or_true, false_or, or_false, f_X3_readObject_81, f_X3_readObject, ↓nm, ↓bd_t w1, ↓bd_t w2, ↓bd_t w3, ↓bd_t gs, ↓ko_t W.k, ↓ko_t A.k, d6, b1, b2]
      · refine no hh ?_ rfl (fun z => c2 z.2.1)
        generalize bT tp sh i = b at *
        generalize lT tp sh i = l at *
        generalize aT tp sh i = q at *
        generalize gst (bT tp sh) (lT tp sh) i = gg at *
        simp (disch := omega) only [nm, bd_s, ko_K, ka_K, koK_t, kaK_t, kr_s, kn_s, kn_n, hK_sI, hR_sI, hK_sL, hR_sL, hI_sL, hL_sI, hL_sL, hI_sI, hN_sI, hN_sL, ch_G, ch_T, nb_0, nb_1, zb_G, d_T, d_F, d_eT, d_eF, b2i_t, b2i_f, tn_nI, fa_lit, fa_litL, m1_e, nI_add, pk_mul, pk_sub, nI_leI, nI_ltI, nI_eq, le_T, le_F, lt_T, lt_F, eq_T, eq_F, if_pos, if_neg, m1_le, m1_lt', m1_gt, m1_le', m1_eq, m1_qe, b2i_eq0, in_N, in_n, in_I, ↓reduceIte, Bool.true_eq_false, Bool.false_eq_true, reduceCtorEq, decide_eq_true_eq, decide_eq_false_iff_not, Nat.not_lt, Nat.not_le, not_true_eq_false, not_false_eq_true, true_and, and_true, and_self, false_and, and_false, true_or, or_true, false_or, or_false, f_X3_readObject_81, f_X3_readObject, ↓nm, ↓bd_t w1, ↓bd_t w2, ↓bd_t w3, ↓bd_t gs, ↓ko_t W.k, ↓ko_t A.k, d6, b1, b2]
    · refine no hh ?_ rfl (fun z => c1 z.1)
      generalize bT tp sh i = b at *
      generalize lT tp sh i = l at *
      generalize aT tp sh i = q at *
      generalize gst (bT tp sh) (lT tp sh) i = gg at *
      simp (disch := omega) only [nm, bd_s, ko_K, ka_K, koK_t, kaK_t, kr_s, kn_s, kn_n, hK_sI, hR_sI, hK_sL, hR_sL, hI_sL, hL_sI, hL_sL, hI_sI, hN_sI, hN_sL, ch_G, ch_T, nb_0, nb_1, zb_G, d_T, d_F, d_eT, d_eF, b2i_t, b2i_f, tn_nI, fa_lit, fa_litL, m1_e, nI_add, pk_mul, pk_sub, nI_leI, nI_ltI, nI_eq, le_T, le_F, lt_T, lt_F, eq_T, eq_F, if_pos, if_neg, m1_le, m1_lt', m1_gt, m1_le', m1_eq, m1_qe, b2i_eq0, in_N, in_n, in_I, ↓reduceIte, Bool.true_eq_false, Bool.false_eq_true, reduceCtorEq, decide_eq_true_eq, decide_eq_false_iff_not, Nat.not_lt, Nat.not_le, not_true_eq_false, not_false_eq_true, true_and, and_true, and_self, false_and, and_false, true_or, or_true, false_or, or_false, f_X3_readObject_81, f_X3_readObject, ↓nm, ↓bd_t w1, ↓bd_t w2, ↓bd_t w3, ↓bd_t gs, ↓ko_t W.k, d6]
end On2b
