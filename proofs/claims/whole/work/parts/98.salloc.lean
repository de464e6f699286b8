/-! alloc: the class -/
section Al1
variable {h : aH} {x r tl : Nat} {tp : Nat → Nat} {rf : Nat → Int32} {ft fp : Int32} {sd : Nat} {M mem sh : Nat} {ns : Nat → List Nat} {kd : Nat → Nat} {cd : Nat → List Nat} {N : tyN} {sl : Nat → tyN} {nx c cr : Nat} {rn : Nat} {rw_ : Nat → Nat} {on_ : Nat} {ob : Nat → Nat}
theorem CX.keep86 (C : CX h x (r, tl, tp, rf, ft, fp, sd) (M, mem, sh, ns, kd, cd) N (sl, nx, c, cr) (rn, rw_) (on_, ob)) {h1 : aH} (e : f_X2_keep (x + 81) (x + 3) h = some ((), h1)) (j : Nat) : hI h1 (x + 86) j = hI h (x + 86) j := by
  obtain ⟨hb, e1, lo, r82, ssq, n8, n9⟩ := keep_base C
  obtain ⟨c1, c2, c3, c4, ⟨d1, d2, d3, d4, d5, d6, d7, d8, d9, d10⟩, c6, c7, c8, c9⟩ := C
  try simp only at d1 d2 d3 d4 d5 d6 d7 d8 d9 d10
  have eI : ∀ b, b < x + 175 + 39 * cr → ∀ j, hI hb b j = hI h b j := fun b q j => ((lo b q).2 j).1
  have eK : ∀ b, b < x + 175 + 39 * cr → hK hb b = hK h b := fun b q => (lo b q).1
  have eR : ∀ b, b < x + 175 + 39 * cr → ∀ j, ¬ (b = x + 82 ∧ j = nx) → hR hb b j = hR h b j := fun b q j => ((lo b q).2 j).2.2
  have S1 : XS hb x := c1.fr2 (fun b q => eK b (by omega)) (fun b j q1 q2 => eR b (by omega) j (by omega))
  have R1 : RS hb (x + 3) N := c4.fr (fun b _ _ j => eI b (by omega) j)
  have st := h_keep28 (h := hb) (y := x + 81) (q := x + 175 + 39 * nx) (s := x + 3) (n := nx) (c := c) S1.k81 S1.r81_2 S1.k82 ((eI _ (by omega) _).trans d1) d6 ((eI _ (by omega) _).trans d2) d10 r82 ssq S1.now (by omega) (by omega) R1.flg
  rw [e1.trans st] at e
  cases e
  unfold keepH
  rw [hI_sI, if_neg (by omega), hI_sI, if_neg (by omega), hI_cpA, if_neg (by omega), if_neg (by omega), if_neg (by omega), if_neg (by omega), if_neg (by omega), eI _ (by omega)]
theorem CX.nt86 (C : CX h x (r, tl, tp, rf, ft, fp, sd) (M, mem, sh, ns, kd, cd) N (sl, nx, c, cr) (rn, rw_) (on_, ob)) (n40 : N 1377 ≤ 40) {w a b : Nat} {h1 : aH} (e : f_X9_note (x + 3) (nI w) (nI a) (nI b) h = some ((), h1)) (j : Nat) : hI h1 (x + 86) j = hI h (x + 86) j := by
  have W := C.1.now
  have e7 : hI h (x + 3) 7 = nI (N 1377) := C.2.2.2.1.2.2.2.1
  by_cases c40 : N 1377 < 40
  · have st : f_X9_note (x + 3) (nI w) (nI a) (nI b) h = some ((), sI (sI (sI (sI h (x + 3 + 5) (N 1377 * 3) (nI w)) (x + 3 + 5) (N 1377 * 3 + 1) (nI a)) (x + 3 + 5) (N 1377 * 3 + 2) (nI b)) (x + 3) 7 (nI (N 1377 + 1))) := by
      simp (disch := omega) only [nm, bd_s, ko_K, ka_K, koK_t, kaK_t, kr_s, kn_s, kn_n, hK_sI, hR_sI, hK_sL, hR_sL, hI_sL, hL_sI, hL_sL, hI_sI, hN_sI, hN_sL, ch_G, ch_T, nb_0, nb_1, zb_G, d_T, d_F, d_eT, d_eF, b2i_t, b2i_f, tn_nI, fa_lit, fa_litL, m1_e, nI_add, pk_mul, pk_sub, nI_leI, nI_ltI, nI_eq, le_T, le_F, lt_T, lt_F, eq_T, eq_F, if_pos, if_neg, m1_le, m1_lt', m1_gt, m1_le', m1_eq, m1_qe, b2i_eq0, in_N, in_n, in_I, ↓reduceIte, Bool.true_eq_false, Bool.false_eq_true, reduceCtorEq, decide_eq_true_eq, decide_eq_false_iff_not, Nat.not_lt, Nat.not_le, not_true_eq_false, not_false_eq_true, true_and, and_true, and_self, false_and, and_false, true_or, or_true, false_or, or_false, f_X9_note_30, f_X9_note, W.k, W.r4, W.k5, e7]
    rw [st] at e
    cases e
    rw [hI_sI, if_neg (by omega), hI_sI, if_neg (by omega), hI_sI, if_neg (by omega), hI_sI, if_neg (by omega)]
  · have h40 : N 1377 = 40 := by omega
    rw [h40] at e7
    have ck : (¬ (3 : Int32) < 0 ∧ ¬ (0 : Int32) < 0 ∧ ¬ (117 : Int32) < 0 ∧ (3 : Int32).toNatClampNeg + (117 : Int32).toNatClampNeg ≤ 120 ∧ (0 : Int32).toNatClampNeg + (117 : Int32).toNatClampNeg ≤ 120) := by decide
    have n30 : ∀ g : aH, SS g (x + 3) → hI g (x + 3) 7 = nI 39 → f_X9_note_30 (x + 3) (nI w) (nI a) (nI b) g = some ((), sI (sI (sI (sI g (x + 3 + 5) 117 (nI w)) (x + 3 + 5) 118 (nI a)) (x + 3 + 5) 119 (nI b)) (x + 3) 7 (nI 40)) := by
      intro g G g7
      simp (disch := omega) only [nm, bd_s, ko_K, ka_K, koK_t, kaK_t, kr_s, kn_s, kn_n, hK_sI, hR_sI, hK_sL, hR_sL, hI_sL, hL_sI, hL_sL, hI_sI, hN_sI, hN_sL, ch_G, ch_T, nb_0, nb_1, zb_G, d_T, d_F, d_eT, d_eF, b2i_t, b2i_f, tn_nI, fa_lit, fa_litL, m1_e, nI_add, pk_mul, pk_sub, nI_leI, nI_ltI, nI_eq, le_T, le_F, lt_T, lt_F, eq_T, eq_F, if_pos, if_neg, m1_le, m1_lt', m1_gt, m1_le', m1_eq, m1_qe, b2i_eq0, in_N, in_n, in_I, ↓reduceIte, Bool.true_eq_false, Bool.false_eq_true, reduceCtorEq, decide_eq_true_eq, decide_eq_false_iff_not, Nat.not_lt, Nat.not_le, not_true_eq_false, not_false_eq_true, true_and, and_true, and_self, false_and, and_false, true_or, or_true, false_or, or_false, f_X9_note_30, G.k, G.r4, G.k5, g7, show 39 * 3 = 117 from rfl, show 117 + 1 = 118 from rfl, show 117 + 2 = 119 from rfl, show 39 + 1 = 40 from rfl]
    have st : f_X9_note (x + 3) (nI w) (nI a) (nI b) h = some ((), sI (sI (sI (sI (sI (acp h (x + 3 + 5) 3 (x + 3 + 5) 0 117) (x + 3) 7 (nI 39)) (x + 3 + 5) 117 (nI w)) (x + 3 + 5) 118 (nI a)) (x + 3 + 5) 119 (nI b)) (x + 3) 7 (nI 40)) := by
      have G : SS (sI (acp h (x + 3 + 5) 3 (x + 3 + 5) 0 117) (x + 3) 7 (nI 39)) (x + 3) := W.of rfl rfl
      have g7 : hI (sI (acp h (x + 3 + 5) 3 (x + 3 + 5) 0 117) (x + 3) 7 (nI 39)) (x + 3) 7 = nI 39 := by rw [hI_sI, if_pos ⟨rfl, rfl⟩]
      rw [← n30 _ G g7]
      have h1 : ¬ nI 40 < (40 : Int32) := by decide
      have kk : hK (acp h (x + 3 + 5) 3 (x + 3 + 5) 0 117) (x + 3) = some (.inl 9) := W.k
      simp only [f_X9_note, ko_t W.k, e7, if_neg h1, kr_t W.r4, ka_t W.k5, chk_t ck, nm, show (3 : Int32).toNatClampNeg = 3 by decide, show (0 : Int32).toNatClampNeg = 0 by decide, show (117 : Int32).toNatClampNeg = 117 by decide, ko_t kk]
      rfl
    rw [st] at e
    cases e
    rw [hI_sI, if_neg (by omega), hI_sI, if_neg (by omega), hI_sI, if_neg (by omega), hI_sI, if_neg (by omega), hI_sI, if_neg (by omega), hI_acp, if_neg (by omega)]
theorem c_add (C : CX h x (r, tl, tp, rf, ft, fp, sd) (M, mem, sh, ns, kd, cd) N (sl, nx, c, cr) (rn, rw_) (on_, ob)) (n32 : N 256 < 32) (n40 : N 1377 ≤ 40) {g b l w : Nat} (hg : g ≤ N 256) : ∃ h1, f_X9_addObject (x + 3) (nI g) (nI b) (nI l) (nI w) h = some ((), h1) ∧ CX h1 x (r, tl, tp, rf, ft, fp, sd) (M, mem, sh, ns, kd, cd) (ntN (inN N g b l w) 0 b l) (sl, nx, c, cr) (rn, rw_) (on_, ob) ∧ FC x h h1 ∧ ∀ j, hI h1 (x + 86) j = hI h (x + 86) j := by
  have W := C.1.now
  have e6 : hI h (x + 3) 6 = nI (N 256) := C.2.2.2.1.2.1
  obtain ⟨C1, F1⟩ := C.ins (b := b) (l := l) (w := w) n32 hg
  have e40 : inN N g b l w 1377 ≤ 40 := by rw [inN_o n32 hg (by omega)]; exact n40
  obtain ⟨h2, e2, C2, F2⟩ := C1.nt (by rw [inN_n]; omega) e40 0 b l
  have k2 := C1.nt86 e40 e2
  refine ⟨h2, ?_, C2, F1.trans F2, fun j => (k2 j).trans (inH_o (by omega) (by omega))⟩
  unfold inH at e2
  simp (disch := omega) only [nm, bd_s, ko_K, ka_K, koK_t, kaK_t, kr_s, kn_s, kn_n, hK_sI, hR_sI, hK_sL, hR_sL, hI_sL, hL_sI, hL_sL, hI_sI, hN_sI, hN_sL, ch_G, ch_T, nb_0, nb_1, zb_G, d_T, d_F, d_eT, d_eF, b2i_t, b2i_f, tn_nI, fa_lit, fa_litL, m1_e, nI_add, pk_mul, pk_sub, nI_leI, nI_ltI, nI_eq, le_T, le_F, lt_T, lt_F, eq_T, eq_F, if_pos, if_neg, m1_le, m1_lt', m1_gt, m1_le', m1_eq, m1_qe, b2i_eq0, in_N, in_n, in_I, ↓reduceIte, Bool.true_eq_false, Bool.false_eq_true, reduceCtorEq, decide_eq_true_eq, decide_eq_false_iff_not, Nat.not_lt, Nat.not_le, not_true_eq_false, not_false_eq_true, true_and, and_true, and_self, false_and, and_false, true_or, or_true, false_or, or_false, f_X9_addObject, W.k, W.r1, W.r2, W.r3, W.k2, W.k3, W.k4, e6, hK_acp, hR_acp, hI_acp, e2]
/-- the pointer's cell, the class -/
def alP (h : aH) (p M b l : Nat) : aH := carX (sI (sI (sI (sI (sI (sI (sI (sI (sI (sI (sI h p 0 (nI 1)) p 1 (nI 0)) p 2 (nI 0)) p 3 (nI 0)) p 4 (nI 0)) p 5 (nI 0)) p 6 (nI 0)) p 7 (nI 0)) p 1 (nI 1)) p 2 (nI b)) p 6 (nI 3)) p M b (b + l)
theorem alP_o {p b l q j : Nat} (hq : ¬ q = p) : hI (alP h p M b l) q j = hI h q j := by
  unfold alP carX
  simp only [hI_sI, hq, false_and, if_false]
theorem alP_v {p b l : Nat} : hI (alP h p M b l) p 0 = nI 1 ∧ hI (alP h p M b l) p 1 = nI 1 ∧ hI (alP h p M b l) p 2 = nI b ∧ hI (alP h p M b l) p 3 = nI (lexN b (b + l) M) ∧ hI (alP h p M b l) p 4 = nI (botN b (lexN b (b + l) M) M) ∧ hI (alP h p M b l) p 5 = nI (topN (b + l) (lexN b (b + l) M) M) ∧ hI (alP h p M b l) p 6 = nI 3 ∧ hI (alP h p M b l) p 7 = nI 0 := by
  unfold alP carX
  refine ⟨?_, ?_, ?_, ?_, ?_, ?_, ?_, ?_⟩ <;> simp [hI_sI]
theorem alP_K {p b l : Nat} : hK (alP h p M b l) = hK h := by unfold alP carX; simp only [hK_sI]
theorem alP_R {p b l : Nat} : hR (alP h p M b l) = hR h := by unfold alP carX; simp only [hR_sI]
theorem alP_L {p b l : Nat} : hL (alP h p M b l) = hL h := by unfold alP carX; simp only [hL_sI]
theorem alP_N {p b l : Nat} : hN (alP h p M b l) = hN h := by unfold alP carX; simp only [hN_sI]
theorem alP_S {p b l : Nat} : hS (alP h p M b l) = hS h := by unfold alP carX; simp only [hS_sI]
theorem CX.al (C : CX h x (r, tl, tp, rf, ft, fp, sd) (M, mem, sh, ns, kd, cd) N (sl, nx, c, cr) (rn, rw_) (on_, ob)) {k b l : Nat} (hk : k < 32) : CX (alP h (x + 3 + 7 + k) M b l) x (r, tl, tp, rf, ft, fp, sd) (M, mem, sh, ns, kd, cd) (ceN N k b (lexN b (b + l) M) (botN b (lexN b (b + l) M) M) (topN (b + l) (lexN b (b + l) M) M)) (sl, nx, c, cr) (rn, rw_) (on_, ob) ∧ FC x h (alP h (x + 3 + 7 + k) M b l) := by
  obtain ⟨v0, v1, v2, v3, v4, v5, v6⟩ := ceN_v (N := N) (k := k) (b := b) (e := lexN b (b + l) M) (o := botN b (lexN b (b + l) M) M) (t := topN (b + l) (lexN b (b + l) M) M)
  obtain ⟨p0, p1, p2, p3, p4, p5, p6, p7⟩ := alP_v (h := h) (M := M) (p := x + 3 + 7 + k) (b := b) (l := l)
  refine C.nc1 ⟨alP_K, fun _ _ _ => by rw [alP_L], alP_N, alP_S, fun q j z => alP_o (fun e => z (by unfold NC; omega)), fun _ _ _ => by rw [alP_R]⟩ alP_R alP_L (C.2.2.2.1.cell hk (fun q _ _ z j => alP_o z) (fun j q => ceN_o (by omega)) (Or.inr ⟨?_, p0, ?_, ?_, ?_, ?_, ?_, ?_, ?_⟩))
  · rw [v0]; omega
  · rw [p1, v0]
  · rw [p2, v1]
  · rw [p3, v2]
  · rw [p4, v3]
  · rw [p5, v4]
  · rw [p6, v5]
  · rw [p7, v6]
theorem c_allocate (C : CX h x (r, tl, tp, rf, ft, fp, sd) (M, mem, sh, ns, kd, cd) N (sl, nx, c, cr) (rn, rw_) (on_, ob)) (okn : okN M mem sh N) (hr : r = 1) (h4 : 4 ≤ M) (h8 : M ≤ 8) {k g b l w : Nat} (hk : k < 16) (n32 : N 256 < 32) (hg : g ≤ N 256) (hb : b + l ≤ 4096) (g0 : hI h (x + 86) 0 = nI g) (g1 : hI h (x + 86) 1 = nI b) (g2 : hI h (x + 86) 2 = nI l) : ∃ h1, f_X11_allocate x (nI k) (nI w) h = some ((), h1) ∧ CX h1 x (r, tl, tp, rf, ft, fp, sd) (M, mem, sh, ns, kd, cd) (alN M N k g b l w) (sl, nx, c, cr) (rn, rw_) (on_, ob) ∧ FC x h h1 ∧ hI h1 (x + 86) 1 = nI b := by
  have S := C.1
  have W := S.now
  obtain ⟨h8', e8, C8, F8, k8⟩ := c_add C n32 okn.2.2.2.2.2.2.2.1 (b := b) (l := l) (w := w) hg
  have S8 := C8.1
  have W8 := S8.now
  have kp := W8.kp (k := k) (by omega)
  obtain ⟨a, ha, h9, A, B⟩ := C8.run hr
  have b2 : hI h8' a 2 = nI M := B.2.1
  have j1 : hI h8' (x + 86) 1 = nI b := (k8 1).trans g1
  have j2 : hI h8' (x + 86) 2 = nI l := (k8 2).trans g2
  obtain ⟨C9, F9⟩ := C8.al (k := k) (b := b) (l := l) (by omega)
  rw [ceN_nt (by omega)] at C9
  refine ⟨_, ?_, C9, F8.trans F9, by rw [alP_o (by omega)]; exact j1⟩
  have ca := c_carry (h := sI (sI (sI (sI (sI (sI (sI (sI (sI (sI (sI h8' (x + 3 + 7 + k) 0 (nI 1)) (x + 3 + 7 + k) 1 (nI 0)) (x + 3 + 7 + k) 2 (nI 0)) (x + 3 + 7 + k) 3 (nI 0)) (x + 3 + 7 + k) 4 (nI 0)) (x + 3 + 7 + k) 5 (nI 0)) (x + 3 + 7 + k) 6 (nI 0)) (x + 3 + 7 + k) 7 (nI 0)) (x + 3 + 7 + k) 1 (nI 1)) (x + 3 + 7 + k) 2 (nI b)) (x + 3 + 7 + k) 6 (nI 3)) (p := x + 3 + 7 + k) kp (b := b) (l := l) (M := M) hb h4 h8
  unfold alP
  simp (disch := omega) only [nm, bd_s, ko_K, ka_K, koK_t, kaK_t, kr_s, kn_s, kn_n, hK_sI, hR_sI, hK_sL, hR_sL, hI_sL, hL_sI, hL_sL, hI_sI, hN_sI, hN_sL, ch_G, ch_T, nb_0, nb_1, zb_G, d_T, d_F, d_eT, d_eF, b2i_t, b2i_f, tn_nI, fa_lit, fa_litL, m1_e, nI_add, pk_mul, pk_sub, nI_leI, nI_ltI, nI_eq, le_T, le_F, lt_T, lt_F, eq_T, eq_F, if_pos, if_neg, m1_le, m1_lt', m1_gt, m1_le', m1_eq, m1_qe, b2i_eq0, in_N, in_n, in_I, ↓reduceIte, Bool.true_eq_false, Bool.false_eq_true, reduceCtorEq, decide_eq_true_eq, decide_eq_false_iff_not, Nat.not_lt, Nat.not_le, not_true_eq_false, not_false_eq_true, true_and, and_true, and_self, false_and, and_false, true_or, or_true, false_or, or_false, f_X11_allocate, f_X6_clear, S.k0, S.r0_2, S.r0_6, S.k86, W.k, g0, g1, g2, e8, S8.k0, S8.r0_2, S8.r0_6, S8.k86, W8.k, W8.r0, W8.k1, W8.rp, kp, j1, j2, h9, A.k, b2, ca]
end Al1
