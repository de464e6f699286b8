/-! on: the class reads -/
def DR (x b j : Nat) : Prop := x + 42 ≤ b ∧ b < x + 81
def rcH (h : aH) (p : Nat) (tp : Nat → Nat) (i : Nat) : aH := sI (sI (sI (sI (sI (sI (sI (sI h p 0 (nI 1)) p 1 (nI (if tp (8 * i) = 1 then 1 else 0))) p 2 (nI (twT tp (8 * i + 1)))) p 3 (nI (tp (8 * i + 3)))) p 4 (nI (tp (8 * i + 4)))) p 5 (nI (tp (8 * i + 5)))) p 6 (nI (tp (8 * i + 6)))) p 7 (nI (tp (8 * i + 7)))
theorem rcH_o {h : aH} {p i q j : Nat} {tp : Nat → Nat} (hq : ¬ q = p) : hI (rcH h p tp i) q j = hI h q j := by
  unfold rcH; simp only [hI_sI, hq, false_and, if_false]
theorem rcH_v {h : aH} {p i : Nat} {tp : Nat → Nat} : hI (rcH h p tp i) p 0 = nI 1 ∧ hI (rcH h p tp i) p 1 = nI (if tp (8 * i) = 1 then 1 else 0) ∧ hI (rcH h p tp i) p 2 = nI (twT tp (8 * i + 1)) ∧ hI (rcH h p tp i) p 3 = nI (tp (8 * i + 3)) ∧ hI (rcH h p tp i) p 4 = nI (tp (8 * i + 4)) ∧ hI (rcH h p tp i) p 5 = nI (tp (8 * i + 5)) ∧ hI (rcH h p tp i) p 6 = nI (tp (8 * i + 6)) ∧ hI (rcH h p tp i) p 7 = nI (tp (8 * i + 7)) := by
  unfold rcH
  refine ⟨?_, ?_, ?_, ?_, ?_, ?_, ?_, ?_⟩ <;> simp [hI_sI]
theorem rcH_K {h : aH} {p i : Nat} {tp : Nat → Nat} : hK (rcH h p tp i) = hK h := by unfold rcH; simp only [hK_sI]
theorem rcH_R {h : aH} {p i : Nat} {tp : Nat → Nat} : hR (rcH h p tp i) = hR h := by unfold rcH; simp only [hR_sI]
theorem rcH_L {h : aH} {p i : Nat} {tp : Nat → Nat} : hL (rcH h p tp i) = hL h := by unfold rcH; simp only [hL_sI]
theorem rcH_N {h : aH} {p i : Nat} {tp : Nat → Nat} : hN (rcH h p tp i) = hN h := by unfold rcH; simp only [hN_sI]
theorem rcH_S {h : aH} {p i : Nat} {tp : Nat → Nat} : hS (rcH h p tp i) = hS h := by unfold rcH; simp only [hS_sI]
theorem FX.rc {x : Nat} {h : aH} {p i : Nat} {tp : Nat → Nat} (hp : x + 42 ≤ p ∧ p < x + 81) : FX x (DR x) h (rcH h p tp i) := ⟨rcH_K, fun _ _ _ => by rw [rcH_L], rcH_N, rcH_S, fun b j q => rcH_o (fun e => q (by unfold DR; omega)), fun _ _ _ => by rw [rcH_R]⟩
section On2
variable {h : aH} {x r tl : Nat} {tp : Nat → Nat} {rf : Nat → Int32} {ft fp : Int32} {sd : Nat} {M mem sh : Nat} {ns : Nat → List Nat} {kd : Nat → Nat} {cd : Nat → List Nat} {N : tyN} {sl : Nat → tyN} {nx c cr : Nat} {rn : Nat} {rw_ : Nat → Nat} {on_ : Nat} {ob : Nat → Nat}
theorem c_cell15 (S : XS h x) (hb : ∀ j, j < 1600 → hI h (x + 1) j = (nI (tp j)).toInt8.toInt32) (tb : ∀ j, tp j ≤ 255) (h4 : 4 ≤ M) (h8 : M ≤ 8) {a i : Nat} (A : MA h a) (ha : a = x + 92 ∨ a = x + 98) (b2 : hI h a 2 = nI M) (hi : i < 32) (kk : 16 ≤ i → hI h (a + 2) ((i - 16) / 4) = nI (kd ((i - 16) / 4)) ∧ kd ((i - 16) / 4) ≤ 7) {s : Int32} (hs : i < 16 ∧ s = -nI 1 ∨ 16 ≤ i ∧ s = nI ((i - 16) / 4)) : (ceP M tp (8 * i) ∧ (16 ≤ i → tp (8 * i + 7) = kd ((i - 16) / 4)) → f_X3_readCell_15 (x + 1) (nI (8 * i)) (x + 42 + 7 + i) s a h = some (nI 1, rcH h (x + 42 + 7 + i) tp i)) ∧ (¬ (ceP M tp (8 * i) ∧ (16 ≤ i → tp (8 * i + 7) = kd ((i - 16) / 4))) → f_X3_readCell_15 (x + 1) (nI (8 * i)) (x + 42 + 7 + i) s a h = some (nI 0, rcH h (x + 42 + 7 + i) tp i)) := by
  have W := S.draft
  have kp := W.kp (k := i) hi
  have e3 : ∀ j, j < 1600 → hI h (x + 1) j &&& nI 255 = nI (tp j) := fun j hj => by
    rw [hb j hj]
    have := bp_b (nI (tp j))
    rw [show (255 : Int32) = nI 255 from rfl] at this
    rw [this, an_255, Nat.mod_eq_of_lt (by have := tb j; omega)]
  have e16 : Int32.ofNat 1600 = nI 1600 := rfl
  have r0 := e3 (8 * i) (by omega)
  have r1 := e3 (8 * i + 1) (by omega)
  have r2 := e3 (8 * i + 1 + 1) (by omega)
  have r3 := e3 (8 * i + 3) (by omega)
  have r4 := e3 (8 * i + 4) (by omega)
  have r5 := e3 (8 * i + 5) (by omega)
  have r6 := e3 (8 * i + 6) (by omega)
  have r7 := e3 (8 * i + 7) (by omega)
  have t0 := tb (8 * i)
  have t1 := tb (8 * i + 1)
  have t2 := tb (8 * i + 1 + 1)
  have t7 := tb (8 * i + 7)
  obtain ⟨w0, w1, w2, w3, w4, w5, w6, w7⟩ := rcH_v (h := h) (p := x + 42 + 7 + i) (i := i) (tp := tp)
  have kH : hK (rcH h (x + 42 + 7 + i) tp i) (x + 42 + 7 + i) = some (.inl 6) := by rw [rcH_K]; exact kp
  have cb := c_canBe kH h4 h8 (tw_le tb _) (tb _) (tb _) (tb _) (tb _) (tb _) w2 w3 w4 w5 w6 w7
  have z0 : hI (rcH h (x + 42 + 7 + i) tp i) (x + 1) (8 * i) &&& nI 255 = nI (tp (8 * i)) := by rw [rcH_o (by omega)]; exact r0
  have z2 : hI (rcH h (x + 42 + 7 + i) tp i) a 2 = nI M := by rw [rcH_o (by omega)]; exact b2
  have AH : MA (rcH h (x + 42 + 7 + i) tp i) a := A.of rcH_K rcH_R
  have SH : XS (rcH h (x + 42 + 7 + i) tp i) x := S.of rcH_K rcH_R
  have fold : ∀ v : Nat, (if tp (8 * i) = 1 then 1 else 0) = v → sI (sI (sI (sI (sI (sI (sI (sI h (x + 42 + 7 + i) 0 (nI 1)) (x + 42 + 7 + i) 1 (nI v)) (x + 42 + 7 + i) 2 (nI (256 * tp (8 * i + 1) + tp (8 * i + 1 + 1)))) (x + 42 + 7 + i) 3 (nI (tp (8 * i + 3)))) (x + 42 + 7 + i) 4 (nI (tp (8 * i + 4)))) (x + 42 + 7 + i) 5 (nI (tp (8 * i + 5)))) (x + 42 + 7 + i) 6 (nI (tp (8 * i + 6)))) (x + 42 + 7 + i) 7 (nI (tp (8 * i + 7))) = rcH h (x + 42 + 7 + i) tp i := by
    intro v hv; subst hv; rfl
  -- the last piece, once the kind is known
  have last : ∀ q : Nat, q ≤ 1 → (ceP M tp (8 * i) ∧ q = 1 → f_X3_readCell_134 (x + 1) (nI (8 * i)) (x + 42 + 7 + i) a (nI q) (rcH h (x + 42 + 7 + i) tp i) = some (nI 1, rcH h (x + 42 + 7 + i) tp i)) ∧ (¬ (ceP M tp (8 * i) ∧ q = 1) → f_X3_readCell_134 (x + 1) (nI (8 * i)) (x + 42 + 7 + i) a (nI q) (rcH h (x + 42 + 7 + i) tp i) = some (nI 0, rcH h (x + 42 + 7 + i) tp i)) := by
    intro q hq
    have ca : ceP M tp (8 * i) ↔ tp (8 * i) ≤ 1 ∧ caP M (twT tp (8 * i + 1)) (tp (8 * i + 3)) (tp (8 * i + 4)) (tp (8 * i + 5)) (tp (8 * i + 6)) (tp (8 * i + 7)) := Iff.rfl
    generalize caP M (twT tp (8 * i + 1)) (tp (8 * i + 3)) (tp (8 * i + 4)) (tp (8 * i + 5)) (tp (8 * i + 6)) (tp (8 * i + 7)) = CA at *
    generalize rcH h (x + 42 + 7 + i) tp i = H at *
    by_cases c0 : tp (8 * i) ≤ 1
    · by_cases c1 : CA
      · have cb := cb.1 c1
        rcases (show q = 0 ∨ q = 1 by omega) with rfl | rfl
        · refine ⟨fun z => by omega, fun _ => ?_⟩
          simp (disch := omega) only [nm, bd_s, ko_K, ka_K, koK_t, kaK_t, kr_s, kn_s, kn_n, hK_sI, hR_sI, hK_sL, hR_sL, hI_sL, hL_sI, hL_sL, hI_sI, hN_sI, hN_sL, ch_G, ch_T, nb_0, nb_1, zb_G, d_T, d_F, d_eT, d_eF, b2i_t, b2i_f, tn_nI, fa_lit, fa_litL, m1_e, nI_add, pk_mul, pk_sub, nI_leI, nI_ltI, nI_eq, le_T, le_F, lt_T, lt_F, eq_T, eq_F, if_pos, if_neg, m1_le, m1_lt', m1_gt, m1_le', m1_eq, m1_qe, b2i_eq0, in_N, in_n, in_I, ↓reduceIte, Bool.true_eq_false, Bool.false_eq_true, reduceCtorEq, decide_eq_true_eq, decide_eq_false_iff_not, Nat.not_lt, Nat.not_le, not_true_eq_false, not_false_eq_true, true_and, and_true, and_self, false_and, and_false, true_or, or_true, false_or, or_false, f_X3_readCell_167, f_X3_readCell_166, f_X3_readCell_134, f_X3_readCell_129, f_X3_readCell_35, f_X3_readCell_15, f_X3_readCell, f_X3_numberAt_23, f_X3_numberAt_20, f_X3_numberAt, SH.k1, e16, z0, AH.k, z2, cb]
        · refine ⟨fun _ => ?_, fun z => absurd ⟨ca.mpr ⟨c0, c1⟩, rfl⟩ z⟩
          simp (disch := omega) only [nm, bd_s, ko_K, ka_K, koK_t, kaK_t, kr_s, kn_s, kn_n, hK_sI, hR_sI, hK_sL, hR_sL, hI_sL, hL_sI, hL_sL, hI_sI, hN_sI, hN_sL, ch_G, ch_T, nb_0, nb_1, zb_G, d_T, d_F, d_eT, d_eF, b2i_t, b2i_f, tn_nI, fa_lit, fa_litL, m1_e, nI_add, pk_mul, pk_sub, nI_leI, nI_ltI, nI_eq, le_T, le_F, lt_T, lt_F, eq_T, eq_F, if_pos, if_neg, m1_le, m1_lt', m1_gt, m1_le', m1_eq, m1_qe, b2i_eq0, in_N, in_n, in_I, ↓reduceIte, Bool.true_eq_false, Bool.false_eq_true, reduceCtorEq, decide_eq_true_eq, decide_eq_false_iff_not, Nat.not_lt, Nat.not_le, not_true_eq_false, not_false_eq_true, true_and, and_true, and_self, false_and, and_false, true_or, or_true, false_or, or_false, f_X3_readCell_167, f_X3_readCell_166, f_X3_readCell_134, f_X3_readCell_129, f_X3_readCell_35, f_X3_readCell_15, f_X3_readCell, f_X3_numberAt_23, f_X3_numberAt_20, f_X3_numberAt, SH.k1, e16, z0, AH.k, z2, cb]
      · have cb := cb.2 c1
        refine ⟨fun z => absurd (ca.mp z.1).2 c1, fun _ => ?_⟩
        simp (disch := omega) only [nm, bd_s, ko_K, ka_K, koK_t, kaK_t, kr_s, kn_s, kn_n, hK_sI, hR_sI, hK_sL, hR_sL, hI_sL, hL_sI, hL_sL, hI_sI, hN_sI, hN_sL, ch_G, ch_T, nb_0, nb_1, zb_G, d_T, d_F, d_eT, d_eF, b2i_t, b2i_f, tn_nI, fa_lit, fa_litL, m1_e, nI_add, pk_mul, pk_sub, nI_leI, nI_ltI, nI_eq, le_T, le_F, lt_T, lt_F, eq_T, eq_F, if_pos, if_neg, m1_le, m1_lt', m1_gt, m1_le', m1_eq, m1_qe, b2i_eq0, in_N, in_n, in_I, ↓reduceIte, Bool.true_eq_false, Bool.false_eq_true, reduceCtorEq, decide_eq_true_eq, decide_eq_false_iff_not, Nat.not_lt, Nat.not_le, not_true_eq_false, not_false_eq_true, true_and, and_true, and_self, false_and, and_false, true_or, or_true, false_or, or_false, f_X3_readCell_167, f_X3_readCell_166, f_X3_readCell_134, f_X3_readCell_129, f_X3_readCell_35, f_X3_readCell_15, f_X3_readCell, f_X3_numberAt_23, f_X3_numberAt_20, f_X3_numberAt, SH.k1, e16, z0, AH.k, z2, cb]
    · refine ⟨fun z => absurd (ca.mp z.1).1 c0, fun _ => ?_⟩
      simp (disch := omega) only [nm, bd_s, ko_K, ka_K, koK_t, kaK_t, kr_s, kn_s, kn_n, hK_sI, hR_sI, hK_sL, hR_sL, hI_sL, hL_sI, hL_sL, hI_sI, hN_sI, hN_sL, ch_G, ch_T, nb_0, nb_1, zb_G, d_T, d_F, d_eT, d_eF, b2i_t, b2i_f, tn_nI, fa_lit, fa_litL, m1_e, nI_add, pk_mul, pk_sub, nI_leI, nI_ltI, nI_eq, le_T, le_F, lt_T, lt_F, eq_T, eq_F, if_pos, if_neg, m1_le, m1_lt', m1_gt, m1_le', m1_eq, m1_qe, b2i_eq0, in_N, in_n, in_I, ↓reduceIte, Bool.true_eq_false, Bool.false_eq_true, reduceCtorEq, decide_eq_true_eq, decide_eq_false_iff_not, Nat.not_lt, Nat.not_le, not_true_eq_false, not_false_eq_true, true_and, and_true, and_self, false_and, and_false, true_or, or_true, false_or, or_false, f_X3_readCell_167, f_X3_readCell_166, f_X3_readCell_134, f_X3_readCell_129, f_X3_readCell_35, f_X3_readCell_15, f_X3_readCell, f_X3_numberAt_23, f_X3_numberAt_20, f_X3_numberAt, SH.k1, e16, z0]
  have upto : ∀ v : Nat, v ≤ 1 → (if tp (8 * i) = 1 then 1 else 0) = v → ∀ q : Nat, q ≤ 1 → (i < 16 ∧ s = -nI 1 ∧ q = 1 ∨ 16 ≤ i ∧ s = nI ((i - 16) / 4) ∧ (q = 1 ↔ tp (8 * i + 7) = kd ((i - 16) / 4))) → f_X3_readCell_15 (x + 1) (nI (8 * i)) (x + 42 + 7 + i) s a h = f_X3_readCell_134 (x + 1) (nI (8 * i)) (x + 42 + 7 + i) a (nI q) (rcH h (x + 42 + 7 + i) tp i) := by
    intro v hv ev q hq hc
    have fo := fold v ev
    have z5 : True := trivial
    have pre : f_X3_readCell_15 (x + 1) (nI (8 * i)) (x + 42 + 7 + i) s a h = f_X3_readCell_35 (x + 1) (nI (8 * i)) (x + 42 + 7 + i) s a (x + 42 + 7 + i) (nI v) (sI h (x + 42 + 7 + i) 0 (nI 1)) := by
      by_cases c1 : tp (8 * i) = 1
      · rw [if_pos c1] at ev
        subst ev
        rw [c1] at r0
        simp (disch := omega) only [nm, bd_s, ko_K, ka_K, koK_t, kaK_t, kr_s, kn_s, kn_n, hK_sI, hR_sI, hK_sL, hR_sL, hI_sL, hL_sI, hL_sL, hI_sI, hN_sI, hN_sL, ch_G, ch_T, nb_0, nb_1, zb_G, d_T, d_F, d_eT, d_eF, b2i_t, b2i_f, tn_nI, fa_lit, fa_litL, m1_e, nI_add, pk_mul, pk_sub, nI_leI, nI_ltI, nI_eq, le_T, le_F, lt_T, lt_F, eq_T, eq_F, if_pos, if_neg, m1_le, m1_lt', m1_gt, m1_le', m1_eq, m1_qe, b2i_eq0, in_N, in_n, in_I, ↓reduceIte, Bool.true_eq_false, Bool.false_eq_true, reduceCtorEq, decide_eq_true_eq, decide_eq_false_iff_not, Nat.not_lt, Nat.not_le, not_true_eq_false, not_false_eq_true, true_and, and_true, and_self, false_and, and_false, true_or, or_true, false_or, or_false, f_X3_readCell_15, f_X3_numberAt_23, f_X3_numberAt_20, f_X3_numberAt, kp, S.k1, e16, r0]
      · rw [if_neg c1] at ev
        subst ev
        simp (disch := omega) only [nm, bd_s, ko_K, ka_K, koK_t, kaK_t, kr_s, kn_s, kn_n, hK_sI, hR_sI, hK_sL, hR_sL, hI_sL, hL_sI, hL_sL, hI_sI, hN_sI, hN_sL, ch_G, ch_T, nb_0, nb_1, zb_G, d_T, d_F, d_eT, d_eF, b2i_t, b2i_f, tn_nI, fa_lit, fa_litL, m1_e, nI_add, pk_mul, pk_sub, nI_leI, nI_ltI, nI_eq, le_T, le_F, lt_T, lt_F, eq_T, eq_F, if_pos, if_neg, m1_le, m1_lt', m1_gt, m1_le', m1_eq, m1_qe, b2i_eq0, in_N, in_n, in_I, ↓reduceIte, Bool.true_eq_false, Bool.false_eq_true, reduceCtorEq, decide_eq_true_eq, decide_eq_false_iff_not, Nat.not_lt, Nat.not_le, not_true_eq_false, not_false_eq_true, true_and, and_true, and_self, false_and, and_false, true_or, or_true, false_or, or_false, f_X3_readCell_15, f_X3_numberAt_23, f_X3_numberAt_20, f_X3_numberAt, kp, S.k1, e16, r0, c1]
    clear cb last w0 w1 w2 w3 w4 w5 w6 w7 kH ev fold AH SH z0 z2 z5
    have num : ∀ g, XS g x → (∀ j, hI g (x + 1) j = hI h (x + 1) j) → ∀ q, q ≤ 7 → f_X3_numberAt (x + 1) (nI (8 * i) + nI q) g = some (nI (tp (8 * i + q)), g) := fun g G hg q hq => by
      rw [nI_add]; exact c_num G (fun j hj => (hg j).trans (hb j hj)) tb (by omega)
    have two : ∀ g, XS g x → (∀ j, hI g (x + 1) j = hI h (x + 1) j) → f_X3_twoAt (x + 1) (nI (8 * i) + 1) g = some (nI (256 * tp (8 * i + 1) + tp (8 * i + 1 + 1)), g) := fun g G hg => by
      rw [show nI (8 * i) + 1 = nI (8 * i + 1) from nI_add _ 1]; exact c_two G (fun j hj => (hg j).trans (hb j hj)) tb (by omega)
    have stp : ∀ (g g' : aH) (k : Nat) (u : Int32), g' = sI g (x + 42 + 7 + i) k u → (hK g = hK h ∧ hR g = hR h ∧ ∀ b j, ¬ b = x + 42 + 7 + i → hI g b j = hI h b j) → (hK g' = hK h ∧ hR g' = hR h ∧ ∀ b j, ¬ b = x + 42 + 7 + i → hI g' b j = hI h b j) := fun g g' k u e q => by
      subst e
      exact ⟨q.1, q.2.1, fun b j z => by rw [hI_sI, if_neg (by omega)]; exact q.2.2 b j z⟩
    obtain ⟨g0, hg0⟩ : ∃ g, g = sI h (x + 42 + 7 + i) 0 (nI 1) := ⟨_, rfl⟩
    obtain ⟨g1, hg1⟩ : ∃ g, g = sI g0 (x + 42 + 7 + i) 1 (nI v) := ⟨_, rfl⟩
    obtain ⟨g2, hg2⟩ : ∃ g, g = sI g1 (x + 42 + 7 + i) 2 (nI (256 * tp (8 * i + 1) + tp (8 * i + 1 + 1))) := ⟨_, rfl⟩
    obtain ⟨g3, hg3⟩ : ∃ g, g = sI g2 (x + 42 + 7 + i) 3 (nI (tp (8 * i + 3))) := ⟨_, rfl⟩
    obtain ⟨g4, hg4⟩ : ∃ g, g = sI g3 (x + 42 + 7 + i) 4 (nI (tp (8 * i + 4))) := ⟨_, rfl⟩
    obtain ⟨g5, hg5⟩ : ∃ g, g = sI g4 (x + 42 + 7 + i) 5 (nI (tp (8 * i + 5))) := ⟨_, rfl⟩
    obtain ⟨g6, hg6⟩ : ∃ g, g = sI g5 (x + 42 + 7 + i) 6 (nI (tp (8 * i + 6))) := ⟨_, rfl⟩
    obtain ⟨g7, hg7⟩ : ∃ g, g = sI g6 (x + 42 + 7 + i) 7 (nI (tp (8 * i + 7))) := ⟨_, rfl⟩
    have e7 : g7 = rcH h (x + 42 + 7 + i) tp i := by rw [hg7, hg6, hg5, hg4, hg3, hg2, hg1, hg0]; exact fo
    have f0 := stp h g0 _ _ hg0 ⟨rfl, rfl, fun _ _ _ => rfl⟩
    have f1 := stp g0 g1 _ _ hg1 f0
    have f2 := stp g1 g2 _ _ hg2 f1
    have f3 := stp g2 g3 _ _ hg3 f2
    have f4 := stp g3 g4 _ _ hg4 f3
    have f5 := stp g4 g5 _ _ hg5 f4
    have f6 := stp g5 g6 _ _ hg6 f5
    have f7 := stp g6 g7 _ _ hg7 f6
    rw [pre, ← hg0, ← e7]
    have KP : ∀ g : aH, hK g = hK h → hK g (x + 42 + 7 + i) = some (.inl 6) := fun g e => by rw [e]; exact kp
    have sv : nI v = 0 ∨ nI v = 1 := flag01 hv
    have A6 : MA g6 a := A.of f6.1 f6.2.1
    have y7 : hI g7 (x + 42 + 7 + i) 7 = nI (tp (8 * i + 7)) := by rw [hg7, hI_sI, if_pos ⟨rfl, rfl⟩]
    have ya : ∀ k, hI g7 (a + 2) k = hI h (a + 2) k := fun k => f7.2.2 _ _ (by omega)
    have t1 := two g1 (S.of f1.1 f1.2.1) (fun j => f1.2.2 _ _ (by omega))
    have n3 : f_X3_numberAt (x + 1) (nI (8 * i) + 3) g2 = some (nI (tp (8 * i + 3)), g2) := num g2 (S.of f2.1 f2.2.1) (fun j => f2.2.2 _ _ (by omega)) 3 (by omega)
    have n4 : f_X3_numberAt (x + 1) (nI (8 * i) + 4) g3 = some (nI (tp (8 * i + 4)), g3) := num g3 (S.of f3.1 f3.2.1) (fun j => f3.2.2 _ _ (by omega)) 4 (by omega)
    have n5 : f_X3_numberAt (x + 1) (nI (8 * i) + 5) g4 = some (nI (tp (8 * i + 5)), g4) := num g4 (S.of f4.1 f4.2.1) (fun j => f4.2.2 _ _ (by omega)) 5 (by omega)
    have n6 : f_X3_numberAt (x + 1) (nI (8 * i) + 6) g5 = some (nI (tp (8 * i + 6)), g5) := num g5 (S.of f5.1 f5.2.1) (fun j => f5.2.2 _ _ (by omega)) 6 (by omega)
    have n7 : f_X3_numberAt (x + 1) (nI (8 * i) + 7) g6 = some (nI (tp (8 * i + 7)), g6) := num g6 (S.of f6.1 f6.2.1) (fun j => f6.2.2 _ _ (by omega)) 7 (by omega)
    have walk : f_X3_readCell_35 (x + 1) (nI (8 * i)) (x + 42 + 7 + i) s a (x + 42 + 7 + i) (nI v) g0 = (if s < 0 then f_X3_readCell_129 (x + 1) (nI (8 * i)) (x + 42 + 7 + i) a g7 else if 4 ≤ s then f_X3_readCell_129 (x + 1) (nI (8 * i)) (x + 42 + 7 + i) a g7 else nm (hI g7 (x + 42 + 7 + i) 7) fun (v39 : Int32) => ko g6 a 4 <| kr (hR g6 a 5) fun a41 => ka g6 a41 .int fun n44 => chk (inb s n44 = true) <| nm (hI g7 a41 s.toNatClampNeg) fun (v46 : Int32) => if v39 = v46 then f_X3_readCell_129 (x + 1) (nI (8 * i)) (x + 42 + 7 + i) a g7 else f_X3_readCell_134 (x + 1) (nI (8 * i)) (x + 42 + 7 + i) a 0 g7) := by
      unfold f_X3_readCell_35
      rw [ko_t (KP g0 f0.1), chk_t sv, ← hg1, bd_t t1, ko_t (KP g1 f1.1), ← hg2, bd_t n3, ko_t (KP g2 f2.1), ← hg3, bd_t n4, ko_t (KP g3 f3.1), ← hg4, bd_t n5, ko_t (KP g4 f4.1), ← hg5, bd_t n6, ko_t (KP g5 f5.1), ← hg6, bd_t n7, ko_t (KP g6 f6.1), ← hg7]
    rw [walk]
    clear walk n3 n4 n5 n6 n7 t1
    rcases hc with ⟨h1, rfl, rfl⟩ | ⟨h1, rfl, h3⟩
    · rw [if_pos (by decide)]
      rfl
    · obtain ⟨k1, k2⟩ := kk h1
      have i4 : (i - 16) / 4 < 4 := by omega
      rw [if_neg (nI_pos (by omega)), if_neg (show ¬ (4 : Int32) ≤ nI ((i - 16) / 4) from nI_ge (b := 4) i4 (by omega))]
      simp only [↓nm, ↓ko_t A6.k, ↓kr_t A6.r5, ↓ka_t A6.k2, ↓chk_t (inb_nI i4 (show 4 < 2 ^ 31 by omega)), tn_nI (show (i - 16) / 4 < 2 ^ 31 by omega), y7, ya, k1]
      by_cases c : tp (8 * i + 7) = kd ((i - 16) / 4)
      · have q1 : q = 1 := h3.mpr c
        rw [if_pos (by rw [c]), q1]
        rfl
      · have q0 : q = 0 := by
          rcases (show q = 0 ∨ q = 1 by omega) with z | z
          · exact z
          · exact absurd (h3.mp z) c
        rw [if_neg (fun z => c ((nI_eq (by omega) (by omega)).mp z)), q0]
        rfl
  have v1 : (if tp (8 * i) = 1 then 1 else 0) ≤ 1 := by split <;> omega
  rcases hs with ⟨h1, h2⟩ | ⟨h1, h2⟩
  · rw [upto _ v1 rfl 1 (by omega) (Or.inl ⟨h1, h2, rfl⟩)]
    obtain ⟨l1, l2⟩ := last 1 (by omega)
    exact ⟨fun z => l1 ⟨z.1, rfl⟩, fun z => l2 (fun y => z ⟨y.1, fun w => by omega⟩)⟩
  · by_cases c : tp (8 * i + 7) = kd ((i - 16) / 4)
    · rw [upto _ v1 rfl 1 (by omega) (Or.inr ⟨h1, h2, ⟨fun _ => c, fun _ => rfl⟩⟩)]
      obtain ⟨l1, l2⟩ := last 1 (by omega)
      exact ⟨fun z => l1 ⟨z.1, rfl⟩, fun z => l2 (fun y => z ⟨y.1, fun _ => c⟩)⟩
    · rw [upto _ v1 rfl 0 (by omega) (Or.inr ⟨h1, h2, ⟨fun z => by omega, fun z => absurd z c⟩⟩)]
      obtain ⟨l1, l2⟩ := last 0 (by omega)
      exact ⟨fun z => absurd (z.2 h1) c, fun z => l2 (fun y => by omega)⟩
/-- one cell -/
def nxH (h : aH) (x : Nat) (tp : Nat → Nat) (i : Nat) : aH := if 16 ≤ i ∧ emT tp (8 * i) = true then h else rcH h (x + 42 + 7 + i) tp i
theorem c_cell (S : XS h x) (hb : ∀ j, j < 1600 → hI h (x + 1) j = (nI (tp j)).toInt8.toInt32) (tb : ∀ j, tp j ≤ 255) (h4 : 4 ≤ M) (h8 : M ≤ 8) {a i : Nat} (A : MA h a) (ha : a = x + 92 ∨ a = x + 98) (b2 : hI h a 2 = nI M) (hi : i < 32) (kk : 16 ≤ i → hI h (a + 2) ((i - 16) / 4) = nI (kd ((i - 16) / 4)) ∧ kd ((i - 16) / 4) ≤ 7) {s : Int32} (hs : i < 16 ∧ s = -nI 1 ∨ 16 ≤ i ∧ s = nI ((i - 16) / 4)) : (clP' M kd tp i → f_X3_readCell (x + 1) (nI (8 * i)) (x + 42 + 7 + i) s a h = some (nI 1, nxH h x tp i)) ∧ (¬ clP' M kd tp i → f_X3_readCell (x + 1) (nI (8 * i)) (x + 42 + 7 + i) s a h = some (nI 0, nxH h x tp i)) := by
  obtain ⟨c1, c2⟩ := c_cell15 (kd := kd) S hb tb h4 h8 A ha b2 hi kk hs
  unfold nxH clP'
  rcases hs with ⟨h1, rfl⟩ | ⟨h1, rfl⟩
  · rw [if_neg (by omega)]
    refine ⟨fun z => ?_, fun z => ?_⟩
    · have c1 := c1 (z.resolve_left (by omega))
      simp (disch := omega) only [nm, bd_s, ko_K, ka_K, koK_t, kaK_t, kr_s, kn_s, kn_n, hK_sI, hR_sI, hK_sL, hR_sL, hI_sL, hL_sI, hL_sL, hI_sI, hN_sI, hN_sL, ch_G, ch_T, nb_0, nb_1, zb_G, d_T, d_F, d_eT, d_eF, b2i_t, b2i_f, tn_nI, fa_lit, fa_litL, m1_e, nI_add, pk_mul, pk_sub, nI_leI, nI_ltI, nI_eq, le_T, le_F, lt_T, lt_F, eq_T, eq_F, if_pos, if_neg, m1_le, m1_lt', m1_gt, m1_le', m1_eq, m1_qe, b2i_eq0, in_N, in_n, in_I, ↓reduceIte, Bool.true_eq_false, Bool.false_eq_true, reduceCtorEq, decide_eq_true_eq, decide_eq_false_iff_not, Nat.not_lt, Nat.not_le, not_true_eq_false, not_false_eq_true, true_and, and_true, and_self, false_and, and_false, true_or, or_true, false_or, or_false, f_X3_readCell, c1]
    · have c2 := c2 (fun y => z (Or.inr y))
      simp (disch := omega) only [nm, bd_s, ko_K, ka_K, koK_t, kaK_t, kr_s, kn_s, kn_n, hK_sI, hR_sI, hK_sL, hR_sL, hI_sL, hL_sI, hL_sL, hI_sI, hN_sI, hN_sL, ch_G, ch_T, nb_0, nb_1, zb_G, d_T, d_F, d_eT, d_eF, b2i_t, b2i_f, tn_nI, fa_lit, fa_litL, m1_e, nI_add, pk_mul, pk_sub, nI_leI, nI_ltI, nI_eq, le_T, le_F, lt_T, lt_F, eq_T, eq_F, if_pos, if_neg, m1_le, m1_lt', m1_gt, m1_le', m1_eq, m1_qe, b2i_eq0, in_N, in_n, in_I, ↓reduceIte, Bool.true_eq_false, Bool.false_eq_true, reduceCtorEq, decide_eq_true_eq, decide_eq_false_iff_not, Nat.not_lt, Nat.not_le, not_true_eq_false, not_false_eq_true, true_and, and_true, and_self, false_and, and_false, true_or, or_true, false_or, or_false, f_X3_readCell, c2]
  · have em := c_emp S hb tb (a := 8 * i) (by omega)
    by_cases e : emT tp (8 * i) = true
    · rw [if_pos ⟨h1, e⟩]
      rw [e, b2i_t] at em
      refine ⟨fun _ => ?_, fun z => absurd (Or.inl ⟨h1, e⟩) z⟩
      have i4 : (i - 16) / 4 < 4 := by omega
      simp (disch := omega) only [nm, bd_s, ko_K, ka_K, koK_t, kaK_t, kr_s, kn_s, kn_n, hK_sI, hR_sI, hK_sL, hR_sL, hI_sL, hL_sI, hL_sL, hI_sI, hN_sI, hN_sL, ch_G, ch_T, nb_0, nb_1, zb_G, d_T, d_F, d_eT, d_eF, b2i_t, b2i_f, tn_nI, fa_lit, fa_litL, m1_e, nI_add, pk_mul, pk_sub, nI_leI, nI_ltI, nI_eq, le_T, le_F, lt_T, lt_F, eq_T, eq_F, if_pos, if_neg, m1_le, m1_lt', m1_gt, m1_le', m1_eq, m1_qe, b2i_eq0, in_N, in_n, in_I, ↓reduceIte, Bool.true_eq_false, Bool.false_eq_true, reduceCtorEq, decide_eq_true_eq, decide_eq_false_iff_not, Nat.not_lt, Nat.not_le, not_true_eq_false, not_false_eq_true, true_and, and_true, and_self, false_and, and_false, true_or, or_true, false_or, or_false, f_X3_readCell, em]
    · rw [if_neg (fun z => e z.2)]
      rw [ts_nt e, b2i_f] at em
      have i4 : (i - 16) / 4 < 4 := by omega
      refine ⟨fun z => ?_, fun z => ?_⟩
      · have c1 := c1 (z.resolve_left (fun y => e y.2))
        simp (disch := omega) only [nm, bd_s, ko_K, ka_K, koK_t, kaK_t, kr_s, kn_s, kn_n, hK_sI, hR_sI, hK_sL, hR_sL, hI_sL, hL_sI, hL_sL, hI_sI, hN_sI, hN_sL, ch_G, ch_T, nb_0, nb_1, zb_G, d_T, d_F, d_eT, d_eF, b2i_t, b2i_f, tn_nI, fa_lit, fa_litL, m1_e, nI_add, pk_mul, pk_sub, nI_leI, nI_ltI, nI_eq, le_T, le_F, lt_T, lt_F, eq_T, eq_F, if_pos, if_neg, m1_le, m1_lt', m1_gt, m1_le', m1_eq, m1_qe, b2i_eq0, in_N, in_n, in_I, ↓reduceIte, Bool.true_eq_false, Bool.false_eq_true, reduceCtorEq, decide_eq_true_eq, decide_eq_false_iff_not, Nat.not_lt, Nat.not_le, not_true_eq_false, not_false_eq_true, true_and, and_true, and_self, false_and, and_false, true_or, or_true, false_or, or_false, f_X3_readCell, em, c1]
      · have c2 := c2 (fun y => z (Or.inr y))
        simp (disch := omega) only [nm, bd_s, ko_K, ka_K, koK_t, kaK_t, kr_s, kn_s, kn_n, hK_sI, hR_sI, hK_sL, hR_sL, hI_sL, hL_sI, hL_sL, hI_sI, hN_sI, hN_sL, ch_G, ch_T, nb_0, nb_1, zb_G, d_T, d_F, d_eT, d_eF, b2i_t, b2i_f, tn_nI, fa_lit, fa_litL, m1_e, nI_add, pk_mul, pk_sub, nI_leI, nI_ltI, nI_eq, le_T, le_F, lt_T, lt_F, eq_T, eq_F, if_pos, if_neg, m1_le, m1_lt', m1_gt, m1_le', m1_eq, m1_qe, b2i_eq0, in_N, in_n, in_I, ↓reduceIte, Bool.true_eq_false, Bool.false_eq_true, reduceCtorEq, decide_eq_true_eq, decide_eq_false_iff_not, Nat.not_lt, Nat.not_le, not_true_eq_false, not_false_eq_true, true_and, and_true, and_self, false_and, and_false, true_or, or_true, false_or, or_false, f_X3_readCell, em, c2]
/-- what stands in the draft ahead of cell i -/
def dI (h : aH) (x : Nat) (N' : tyN) (i : Nat) : Prop := (∀ k, k < i → PS h (x + 42 + 7 + k) N' (8 * k)) ∧ (∀ k, i ≤ k → k < 32 → 16 ≤ k → hI h (x + 42 + 7 + k) 0 = nI 0 ∧ hI h (x + 42 + 7 + k) 1 = nI 0) ∧ hI h (x + 42) 6 = nI 0 ∧ hI h (x + 42) 7 = nI 0 ∧ ∀ a, a < 1024 → byP h (x + 42 + 6) a = nI 0
theorem c_cellsT (O : Ok (r, tl, tp, rf, ft, fp, sd) (M, mem, sh, ns, kd, cd) N (sl, nx, c, cr) (rn, rw_) (on_, ob)) (hr : r = 1) {a o : Nat} : ∀ (j i n : Nat) (hh : aH), i + j = 16 + 4 * sh → j < n → CX hh x (r, 0, tp, rf, ft, fp, sd) (M, mem, sh, ns, kd, cd) N (sl, nx, c, cr) (rn, rw_) (on_, ob) → hR hh x 9 = some a → dI hh x (onN sh tp N) i → ∃ h1, FX x (DR x) hh h1 ∧ hR h1 = hR hh ∧ hL h1 = hL hh ∧ ((∀ k, i ≤ k → k < 16 + 4 * sh → clP' M kd tp k) → f_X3_read_90 n (x + 1) (x + 42) a (nI (16 + 4 * sh)) (nI o) (nI i) hh = f_X3_read_150 FU (x + 1) (x + 42) a (nI (16 + 4 * sh)) (nI o) (nI 0) h1 ∧ dI h1 x (onN sh tp N) (16 + 4 * sh)) ∧ (¬ (∀ k, i ≤ k → k < 16 + 4 * sh → clP' M kd tp k) → f_X3_read_90 n (x + 1) (x + 42) a (nI (16 + 4 * sh)) (nI o) (nI i) hh = some (nI 0, h1)) := by
  obtain ⟨h4, h8, -, mm, s4, -, kd7, -⟩ := O.okb hr
  have tb : ∀ j, tp j ≤ 255 := O.1.2.1
  intro j
  induction j with
  | zero =>
    intro i n hh hi hn C h9 D
    obtain ⟨n, rfl⟩ : ∃ k, n = k + 1 := ⟨n - 1, by omega⟩
    have hi : i = 16 + 4 * sh := by omega
    subst hi
    refine ⟨hh, FX.refl _ _ _, rfl, rfl, fun _ => ⟨?_, D⟩, fun z => absurd (fun k h1 h2 => by omega) z⟩
    simp (disch := omega) only [nm, bd_s, ko_K, ka_K, koK_t, kaK_t, kr_s, kn_s, kn_n, hK_sI, hR_sI, hK_sL, hR_sL, hI_sL, hL_sI, hL_sL, hI_sI, hN_sI, hN_sL, ch_G, ch_T, nb_0, nb_1, zb_G, d_T, d_F, d_eT, d_eF, b2i_t, b2i_f, tn_nI, fa_lit, fa_litL, m1_e, nI_add, pk_mul, pk_sub, nI_leI, nI_ltI, nI_eq, le_T, le_F, lt_T, lt_F, eq_T, eq_F, if_pos, if_neg, m1_le, m1_lt', m1_gt, m1_le', m1_eq, m1_qe, b2i_eq0, in_N, in_n, in_I, ↓reduceIte, Bool.true_eq_false, Bool.false_eq_true, reduceCtorEq, decide_eq_true_eq, decide_eq_false_iff_not, Nat.not_lt, Nat.not_le, not_true_eq_false, not_false_eq_true, true_and, and_true, and_self, false_and, and_false, true_or, or_true, false_or, or_false, f_X3_read_90, b_X3_read_90]
  | succ j ih =>
    intro i n hh hi hn C h9 D
    obtain ⟨n, rfl⟩ : ∃ k, n = k + 1 := ⟨n - 1, by omega⟩
    have S := C.1
    have W := S.draft
    obtain ⟨a', ha, h9', A, B⟩ := C.run hr
    rw [h9] at h9'
    cases h9'
    have b2 : hI hh a 2 = nI M := B.2.1
    have kk : 16 ≤ i → hI hh (a + 2) ((i - 16) / 4) = nI (kd ((i - 16) / 4)) ∧ kd ((i - 16) / 4) ≤ 7 := fun z => ⟨B.2.2.2.2.1 ((i - 16) / 4) (by omega) (by omega), (kd7 ((i - 16) / 4) (by omega)).2⟩
    obtain ⟨s, hs, es⟩ : ∃ s, (i < 16 ∧ s = -nI 1 ∨ 16 ≤ i ∧ s = nI ((i - 16) / 4)) ∧ f_X3_read_90 (n + 1) (x + 1) (x + 42) a (nI (16 + 4 * sh)) (nI o) (nI i) hh = f_X3_read_115 (f_X3_read_90 n) (x + 1) (x + 42) a (nI (16 + 4 * sh)) (nI o) (nI i) s hh := by
      by_cases c : i < 16
      · refine ⟨-nI 1, Or.inl ⟨c, rfl⟩, ?_⟩
        simp (disch := omega) only [nm, bd_s, ko_K, ka_K, koK_t, kaK_t, kr_s, kn_s, kn_n, hK_sI, hR_sI, hK_sL, hR_sL, hI_sL, hL_sI, hL_sL, hI_sI, hN_sI, hN_sL, ch_G, ch_T, nb_0, nb_1, zb_G, d_T, d_F, d_eT, d_eF, b2i_t, b2i_f, tn_nI, fa_lit, fa_litL, m1_e, nI_add, pk_mul, pk_sub, nI_leI, nI_ltI, nI_eq, le_T, le_F, lt_T, lt_F, eq_T, eq_F, if_pos, if_neg, m1_le, m1_lt', m1_gt, m1_le', m1_eq, m1_qe, b2i_eq0, in_N, in_n, in_I, ↓reduceIte, Bool.true_eq_false, Bool.false_eq_true, reduceCtorEq, decide_eq_true_eq, decide_eq_false_iff_not, Nat.not_lt, Nat.not_le, not_true_eq_false, not_false_eq_true, true_and, and_true, and_self, false_and, and_false, true_or, or_true, false_or, or_false, f_X3_read_90, b_X3_read_90]
      · refine ⟨nI ((i - 16) / 4), Or.inr ⟨by omega, rfl⟩, ?_⟩
        have dv : nI (i - 16) / nI 4 = nI ((i - 16) / 4) := pk_div (by omega) (by omega) (by omega)
        simp (disch := omega) only [nm, bd_s, ko_K, ka_K, koK_t, kaK_t, kr_s, kn_s, kn_n, hK_sI, hR_sI, hK_sL, hR_sL, hI_sL, hL_sI, hL_sL, hI_sI, hN_sI, hN_sL, ch_G, ch_T, nb_0, nb_1, zb_G, d_T, d_F, d_eT, d_eF, b2i_t, b2i_f, tn_nI, fa_lit, fa_litL, m1_e, nI_add, pk_mul, pk_sub, nI_leI, nI_ltI, nI_eq, le_T, le_F, lt_T, lt_F, eq_T, eq_F, if_pos, if_neg, m1_le, m1_lt', m1_gt, m1_le', m1_eq, m1_qe, b2i_eq0, in_N, in_n, in_I, ↓reduceIte, Bool.true_eq_false, Bool.false_eq_true, reduceCtorEq, decide_eq_true_eq, decide_eq_false_iff_not, Nat.not_lt, Nat.not_le, not_true_eq_false, not_false_eq_true, true_and, and_true, and_self, false_and, and_false, true_or, or_true, false_or, or_false, f_X3_read_90, b_X3_read_90, dv]
    rw [es]
    obtain ⟨c1, c2⟩ := c_cell (kd := kd) S C.2.1.2.2.1 tb h4 h8 A ha b2 (show i < 32 by omega) kk hs
    have fx : FX x (DR x) hh (nxH hh x tp i) := by
      unfold nxH; split
      · exact FX.refl _ _ _
      · exact FX.rc (by omega)
    have fr : hR (nxH hh x tp i) = hR hh := by
      unfold nxH; split
      · rfl
      · exact rcH_R
    have fl : hL (nxH hh x tp i) = hL hh := by
      unfold nxH; split
      · rfl
      · exact rcH_L
    by_cases cc : clP' M kd tp i
    · have c1 := c1 cc
      obtain ⟨C1, -⟩ := C.sc1 (fx.mono (fun b j q => by unfold DR at q; unfold SC; omega)) fr fl
      have D1 : dI (nxH hh x tp i) x (onN sh tp N) (i + 1) := by
        obtain ⟨d1, d2, d3, d4, d5⟩ := D
        have no : ∀ b j, ¬ b = x + 42 + 7 + i → hI (nxH hh x tp i) b j = hI hh b j := fun b j q => by
          unfold nxH; split
          · rfl
          · exact rcH_o q
        refine ⟨fun k hk => ?_, fun k h1 h2 h3 => ?_, ?_, ?_, fun a ha => ?_⟩
        · by_cases z : k = i
          · subst z
            by_cases e : 16 ≤ k ∧ emT tp (8 * k) = true
            · have v0 : onN sh tp N (8 * k) = 2 := onN_e (q := 0) (by omega) (by omega) (by omega) e
              obtain ⟨y1, y2⟩ := d2 k (by omega) (by omega) e.1
              unfold nxH
              rw [if_pos e]
              exact Or.inl ⟨v0, y1, Or.inl y2⟩
            · have v := fun (j : Nat) (hj : j < 8) => onN_c (N := N) (show k < 16 + 4 * sh by omega) (show k < 32 by omega) hj e
              have v0 : onN sh tp N (8 * k) = tp (8 * k) := v 0 (by omega)
              have p1 := (cc.resolve_left e).1.1
              obtain ⟨w0, w1, w2, w3, w4, w5, w6, w7⟩ := rcH_v (h := hh) (p := x + 42 + 7 + k) (i := k) (tp := tp)
              unfold nxH
              rw [if_neg e]
              refine Or.inr ⟨by omega, w0, ?_, ?_, ?_, ?_, ?_, ?_, ?_⟩
              · rw [w1, v0]; congr 1; split <;> omega
              · rw [w2, v 1 (by omega)]; rfl
              · rw [w3, v 2 (by omega)]; rfl
              · rw [w4, v 3 (by omega)]; rfl
              · rw [w5, v 4 (by omega)]; rfl
              · rw [w6, v 5 (by omega)]; rfl
              · rw [w7, v 6 (by omega)]; rfl
          · exact (d1 k (by omega)).fr (fun j _ => no _ j (by omega))
        · rw [no _ _ (by omega), no _ _ (by omega)]; exact d2 k (by omega) h2 h3
        · rw [no _ _ (by omega)]; exact d3
        · rw [no _ _ (by omega)]; exact d4
        · unfold byP; rw [no _ _ (by omega)]; exact d5 a ha
      obtain ⟨h1, i1, i2, i3, i4, i5⟩ := ih (i + 1) n _ (by omega) (by omega) C1 (by rw [fr]; exact h9) D1
      have go : f_X3_read_115 (f_X3_read_90 n) (x + 1) (x + 42) a (nI (16 + 4 * sh)) (nI o) (nI i) s hh = f_X3_read_90 n (x + 1) (x + 42) a (nI (16 + 4 * sh)) (nI o) (nI (i + 1)) (nxH hh x tp i) := by
        generalize nxH hh x tp i = g at *
        simp (disch := omega) only [nm, bd_s, ko_K, ka_K, koK_t, kaK_t, kr_s, kn_s, kn_n, hK_sI, hR_sI, hK_sL, hR_sL, hI_sL, hL_sI, hL_sL, hI_sI, hN_sI, hN_sL, ch_G, ch_T, nb_0, nb_1, zb_G, d_T, d_F, d_eT, d_eF, b2i_t, b2i_f, tn_nI, fa_lit, fa_litL, m1_e, nI_add, pk_mul, pk_sub, nI_leI, nI_ltI, nI_eq, le_T, le_F, lt_T, lt_F, eq_T, eq_F, if_pos, if_neg, m1_le, m1_lt', m1_gt, m1_le', m1_eq, m1_qe, b2i_eq0, in_N, in_n, in_I, ↓reduceIte, Bool.true_eq_false, Bool.false_eq_true, reduceCtorEq, decide_eq_true_eq, decide_eq_false_iff_not, Nat.not_lt, Nat.not_le, not_true_eq_false, not_false_eq_true, true_and, and_true, and_self, false_and, and_false, true_or, or_true, false_or, or_false, f_X3_read_115, W.k, W.r0, W.k1, W.rp, c1]
      rw [go]
      refine ⟨h1, fx.trans i1, i2.trans fr, i3.trans fl, fun z => i4 (fun k q1 q2 => z k (by omega) q2), fun z => i5 (fun y => z (fun k q1 q2 => ?_))⟩
      by_cases e : k = i
      · rw [e]; exact cc
      · exact y k (by omega) q2
    · have c2 := c2 cc
      refine ⟨nxH hh x tp i, fx, fr, fl, fun z => absurd (z i (by omega) (by omega)) cc, fun _ => ?_⟩
      generalize nxH hh x tp i = g at *
      simp (disch := omega) only [nm, bd_s, ko_K, ka_K, koK_t, kaK_t, kr_s, kn_s, kn_n, hK_sI, hR_sI, hK_sL, hR_sL, hI_sL, hL_sI, hL_sL, hI_sI, hN_sI, hN_sL, ch_G, ch_T, nb_0, nb_1, zb_G, d_T, d_F, d_eT, d_eF, b2i_t, b2i_f, tn_nI, fa_lit, fa_litL, m1_e, nI_add, pk_mul, pk_sub, nI_leI, nI_ltI, nI_eq, le_T, le_F, lt_T, lt_F, eq_T, eq_F, if_pos, if_neg, m1_le, m1_lt', m1_gt, m1_le', m1_eq, m1_qe, b2i_eq0, in_N, in_n, in_I, ↓reduceIte, Bool.true_eq_false, Bool.false_eq_true, reduceCtorEq, decide_eq_true_eq, decide_eq_false_iff_not, Nat.not_lt, Nat.not_le, not_true_eq_false, not_false_eq_true, true_and, and_true, and_self, false_and, and_false, true_or, or_true, false_or, or_false, f_X3_read_115, W.k, W.r0, W.k1, W.rp, c2]
end On2
