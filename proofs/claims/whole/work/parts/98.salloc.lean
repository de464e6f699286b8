/-! alloc: the class -/
section Al1
variable {h : aH} {x r tl : Nat} {tp : Nat → Nat} {rf : Nat → Int32} {ft fp : Int32} {sd : Nat} {M mem sh : Nat} {ns : Nat → List Nat} {kd : Nat → Nat} {cd : Nat → List Nat} {N : tyN} {sl : Nat → tyN} {nx c cr : Nat} {rn : Nat} {rw_ : Nat → Nat} {on_ : Nat} {ob : Nat → Nat}
theorem CX.keep86 (C : CX h x (r, tl, tp, rf, ft, fp, sd) (M, mem, sh, ns, kd, cd) N (sl, nx, c, cr) (rn, rw_) (on_, ob)) {h1 : aH} (e : f_X2_keep (x + 81) (x + 3) h = some ((), h1)) (j : Nat) : hI h1 (x + 86) j = hI h (x + 86) j := by
  obtain ⟨hb, e1, lo, r82, ssq, n8, n9⟩ := keep_base C
  obtain ⟨c1, c2, c3, c4, ⟨d1, d2, d3, d4, d5, d6, d7, d8, d9, d10⟩, c6, c7, c8, c9⟩ := C
  try simp only at d1 d2 d3 d4 d5 d6 d7 d8 d9 d10
  have eI : ∀ b, b < x + 175 + 39 * cr → ∀ j, hI hb b j = hI h b j := fun b q j => ((lo b q).2 j).1
  have eK : ∀ b, b < x + 175 + 39 * cr → hK hb b = hK h b := fun b q => (lo b q).1
  have eR : ∀ b, b < x + 175 + 39 * cr → ∀ j, ¬ (b = x + 82 ∧ j = nx) → hR hb b j = hR h b j := fun b q j => ((lo b q).2 j).2.2
  have S1 : XS hb x := c1.fr2 (fun b q => eK b (by omega)) (fun b j q1 q2 => eR b (by omega) j (by omega))
  have R1 : RS hb (x + 3) N := c4.fr (fun b _ _ j => eI b (by omega) j)
  have st := h_keep28 (h := hb) (y := x + 81) (q := x + 175 + 39 * nx) (s := x + 3) (n := nx) (c := c) S1.k81 S1.r81_2 S1.k82 ((eI _ (by omega) _).trans d1) d6 ((eI _ (by omega) _).trans d2) d10 r82 ssq S1.now (by omega) (by omega) R1.flg
  rw [e1.trans st] at e
  cases e
  unfold keepH
  rw [hI_sI, if_neg (by omega), hI_sI, if_neg (by omega), hI_cpA, if_neg (by omega), if_neg (by omega), if_neg (by omega), if_neg (by omega), if_neg (by omega), eI _ (by omega)]
theorem CX.nt86 (C : CX h x (r, tl, tp, rf, ft, fp, sd) (M, mem, sh, ns, kd, cd) N (sl, nx, c, cr) (rn, rw_) (on_, ob)) (n40 : N 1377 ≤ 40) {w a b : Nat} {h1 : aH} (e : f_X9_note (x + 3) (nI w) (nI a) (nI b) h = some ((), h1)) (j : Nat) : hI h1 (x + 86) j = hI h (x + 86) j := by
  have W := C.1.now
  have e7 : hI h (x + 3) 7 = nI (N 1377) := C.2.2.2.1.2.2.2.1
  by_cases c40 : N 1377 < 40
  · have st : f_X9_note (x + 3) (nI w) (nI a) (nI b) h = some ((), sI (sI (sI (sI h (x + 3 + 5) (N 1377 * 3) (nI w)) (x + 3 + 5) (N 1377 * 3 + 1) (nI a)) (x + 3 + 5) (N 1377 * 3 + 2) (nI b)) (x + 3) 7 (nI (N 1377 + 1))) := by
      simp (disch := omega) only [nm, bd_s, ko_K, ka_K, koK_t, kaK_t, kr_s, kn_s, kn_n, hK_sI, hR_sI, hK_sL, hR_sL, hI_sL, hL_sI, hL_sL, hI_sI, hN_sI, hN_sL, ch_G, ch_T, nb_0, nb_1, zb_G, d_T, d_F, d_eT, d_eF, b2i_t, b2i_f, tn_nI, fa_lit, fa_litL, m1_e, nI_add, pk_mul, pk_sub, nI_leI, nI_ltI, nI_eq, le_T, le_F, lt_T, lt_F, eq_T, eq_F, if_pos, if_neg, m1_le, m1_lt', m1_gt, m1_le', m1_eq, m1_qe, b2i_eq0, in_N, in_n, in_I, ↓reduceIte, Bool.true_eq_false, Bool.false_eq_true, reduceCtorEq, decide_eq_true_eq, decide_eq_false_iff_not, Nat.not_lt, Nat.not_le, not_true_eq_false, not_false_eq_true, true_and, and_true, and_self, false_and, and_false, true_or, or_true, false_or, or_false, f_X9_note_30, f_X9_note, W.k, W.r4, W.k5, e7]
    rw [st] at e
    cases e
    rw [hI_sI, if_neg (by omega), hI_sI, if_neg (by omega), hI_sI, if_neg (by omega), hI_sI, if_neg (by omega)]
  · have h40 : N 1377 = 40 := by omega
    rw [h40] at e7
    have ck : (¬ (3 : Int32) < 0 ∧ ¬ (0 : Int32) < 0 ∧ ¬ (117 : Int32) < 0 ∧ (3 : Int32).toNatClampNeg + (117 : Int32).toNatClampNeg ≤ 120 ∧ (0 : Int32).toNatClampNeg + (117 : Int32).toNatClampNeg ≤ 120) := by decide
    have n30 : ∀ g : aH, SS g (x + 3) → hI g (x + 3) 7 = nI 39 → f_X9_note_30 (x + 3) (nI w) (nI a) (nI b) g = some ((), sI (sI (sI (sI g (x + 3 + 5) 117 (nI w)) (x + 3 + 5) 118 (nI a)) (x + 3 + 5) 119 (nI b)) (x + 3) 7 (nI 40)) := by
      intro g G g7
      simp (disch := omega) only [nm, bd_s, ko_K, ka_K, koK_t, kaK_t, kr_s, kn_s, kn_n, hK_sI, hR_sI, hK_sL, hR_sL, hI_sL, hL_sI, hL_sL, hI_sI, hN_sI, hN_sL, ch_G, ch_T, nb_0, nb_1, zb_G, d_T, d_F, d_eT, d_eF, b2i_t, b2i_f, tn_nI, fa_lit, fa_litL, m1_e, nI_add, pk_mul, pk_sub, nI_leI, nI_ltI, nI_eq, le_T, le_F, lt_T, lt_F, eq_T, eq_F, if_pos, if_neg, m1_le, m1_lt', m1_gt, m1_le', m1_eq, m1_qe, b2i_eq0, in_N, in_n, in_I, ↓reduceIte, Bool.true_eq_false, Bool.false_eq_true, reduceCtorEq, decide_eq_true_eq, decide_eq_false_iff_not, Nat.not_lt, Nat.not_le, not_true_eq_false, not_false_eq_true, true_and, and_true, and_self, false_and, and_false, true_or, or_true, false_or, or_false, f_X9_note_30, G.k, G.r4, G.k5, g7, show 39 * 3 = 117 from rfl, show 117 + 1 = 118 from rfl, show 117 + 2 = 119 from rfl, show 39 + 1 = 40 from rfl]
    have st : f_X9_note (x + 3) (nI w) (nI a) (nI b) h = some ((), sI (sI (sI (sI (sI (acp h (x + 3 + 5) 3 (x + 3 + 5) 0 117) (x + 3) 7 (nI 39)) (x + 3 + 5) 117 (nI w)) (x + 3 + 5) 118 (nI a)) (x + 3 + 5) 119 (nI b)) (x + 3) 7 (nI 40)) := by
      have G : SS (sI (acp h (x + 3 + 5) 3 (x + 3 + 5) 0 117) (x + 3) 7 (nI 39)) (x + 3) := W.of rfl rfl
      have g7 : hI (sI (acp h (x + 3 + 5) 3 (x + 3 + 5) 0 117) (x + 3) 7 (nI 39)) (x + 3) 7 = nI 39 := by rw [hI_sI, if_pos ⟨rfl, rfl⟩]
      rw [← n30 _ G g7]
      have h1 : ¬ nI 40 < (40 : Int32) := by decide
      have kk : hK (acp h (x + 3 + 5) 3 (x + 3 + 5) 0 117) (x + 3) = some (.inl 9) := W.k
      simp only [f_X9_note, ko_t W.k, e7, if_neg h1, kr_t W.r4, ka_t W.k5, chk_t ck, nm, show (3 : Int32).toNatClampNeg = 3 by decide, show (0 : Int32).toNatClampNeg = 0 by decide, show (117 : Int32).toNatClampNeg = 117 by decide, ko_t kk]
      rfl
    rw [st] at e
    cases e
    rw [hI_sI, if_neg (by omega), hI_sI, if_neg (by omega), hI_sI, if_neg (by omega), hI_sI, if_neg (by omega), hI_sI, if_neg (by omega), hI_acp, if_neg (by omega)]
theorem c_add (C : CX h x (r, tl, tp, rf, ft, fp, sd) (M, mem, sh, ns, kd, cd) N (sl, nx, c, cr) (rn, rw_) (on_, ob)) (n32 : N 256 < 32) (n40 : N 1377 ≤ 40) {g b l w : Nat} (hg : g ≤ N 256) : ∃ h1, f_X9_addObject (x + 3) (nI g) (nI b) (nI l) (nI w) h = some ((), h1) ∧ CX h1 x (r, tl, tp, rf, ft, fp, sd) (M, mem, sh, ns, kd, cd) (ntN (inN N g b l w) 0 b l) (sl, nx, c, cr) (rn, rw_) (on_, ob) ∧ FC x h h1 ∧ ∀ j, hI h1 (x + 86) j = hI h (x + 86) j := by
  have W := C.1.now
  have e6 : hI h (x + 3) 6 = nI (N 256) := C.2.2.2.1.2.1
  obtain ⟨C1, F1⟩ := C.ins (b := b) (l := l) (w := w) n32 hg
  have e40 : inN N g b l w 1377 ≤ 40 := by rw [inN_o n32 hg (by omega)]; exact n40
  obtain ⟨h2, e2, C2, F2⟩ := C1.nt (by rw [inN_n]; omega) e40 0 b l
  have k2 := C1.nt86 e40 e2
  refine ⟨h2, ?_, C2, F1.trans F2, fun j => (k2 j).trans (inH_o (by omega) (by omega))⟩
  unfold inH at e2
  simp (disch := omega) only [nm, bd_s, ko_K, ka_K, koK_t, kaK_t, kr_s, kn_s, kn_n, hK_sI, hR_sI, hK_sL, hR_sL, hI_sL, hL_sI, hL_sL, hI_sI, hN_sI, hN_sL, ch_G, ch_T, nb_0, nb_1, zb_G, d_T, d_F, d_eT, d_eF, b2i_t, b2i_f, tn_nI, fa_lit, fa_litL, m1_e, nI_add, pk_mul, pk_sub, nI_leI, nI_ltI, nI_eq, le_T, le_F, lt_T, lt_F, eq_T, eq_F, if_pos, if_neg, m1_le, m1_lt', m1_gt, m1_le', m1_eq, m1_qe, b2i_eq0, in_N, in_n, in_I, ↓reduceIte, Bool.true_eq_false, Bool.false_eq_true, reduceCtorEq, decide_eq_true_eq, decide_eq_false_iff_not, Nat.not_lt, Nat.not_le, not_true_eq_false, not_false_eq_true, true_and, and_true, and_self, false_and, and_false, true_or, or_true, false_or, or_false, f_X9_addObject, W.k, W.r1, W.r2, W.r3, W.k2, W.k3, W.k4, e6, hK_acp, hR_acp, hI_acp, e2]
/-- the pointer's cell, the class -/
def alP (h : aH) (p M b l : Nat) : aH := carX (sI (sI (sI (sI (sI (sI (sI (sI (sI (sI (sI h p 0 (nI 1)) p 1 (nI 0)) p 2 (nI 0)) p 3 (nI 0)) p 4 (nI 0)) p 5 (nI 0)) p 6 (nI 0)) p 7 (nI 0)) p 1 (nI 1)) p 2 (nI b)) p 6 (nI 3)) p M b (b + l)
theorem alP_o {p b l q j : Nat} (hq : ¬ q = p) : hI (alP h p M b l) q j = hI h q j := by
  unfold alP carX
  simp only [hI_sI, hq, false_and, if_false]
theorem alP_v {p b l : Nat} : hI (alP h p M b l) p 0 = nI 1 ∧ hI (alP h p M b l) p 1 = nI 1 ∧ hI (alP h p M b l) p 2 = nI b ∧ hI (alP h p M b l) p 3 = nI (lexN b (b + l) M) ∧ hI (alP h p M b l) p 4 = nI (botN b (lexN b (b + l) M) M) ∧ hI (alP h p M b l) p 5 = nI (topN (b + l) (lexN b (b + l) M) M) ∧ hI (alP h p M b l) p 6 = nI 3 ∧ hI (alP h p M b l) p 7 = nI 0 := by
  unfold alP carX
  refine ⟨?_, ?_, ?_, ?_, ?_, ?_, ?_, ?_⟩ <;> simp [hI_sI]
theorem CX.al (C : CX h x (r, tl, tp, rf, ft, fp, sd) (M, mem, sh, ns, kd, cd) N (sl, nx, c, cr) (rn, rw_) (on_, ob)) {k b l : Nat} (hk : k < 32) : CX (alP h (x + 3 + 7 + k) M b l) x (r, tl, tp, rf, ft, fp, sd) (M, mem, sh, ns, kd, cd) (ceN N k b (lexN b (b + l) M) (botN b (lexN b (b + l) M) M) (topN (b + l) (lexN b (b + l) M) M)) (sl, nx, c, cr) (rn, rw_) (on_, ob) ∧ FC x h (alP h (x + 3 + 7 + k) M b l) := by
  obtain ⟨v0, v1, v2, v3, v4, v5, v6⟩ := ceN_v (N := N) (k := k) (b := b) (e := lexN b (b + l) M) (o := botN b (lexN b (b + l) M) M) (t := topN (b + l) (lexN b (b + l) M) M)
  obtain ⟨p0, p1, p2, p3, p4, p5, p6, p7⟩ := alP_v (h := h) (M := M) (p := x + 3 + 7 + k) (b := b) (l := l)
  refine C.nc1 ?_ rfl rfl (C.2.2.2.1.cell hk (fun q _ _ z j => alP_o z) (fun j q => ceN_o (by omega)) (Or.inr ⟨?_, p0, ?_, ?_, ?_, ?_, ?_, ?_, ?_⟩))
  · refine ⟨rfl, fun _ _ _ => rfl, rfl, rfl, fun q j z => alP_o ?_, fun _ _ _ => rfl⟩
    rintro rfl
    exact z (by unfold NC; omega)
  · rw [v0]; omega
  · rw [p1, v0]
  · rw [p2, v1]
  · rw [p3, v2]
  · rw [p4, v3]
  · rw [p5, v4]
  · rw [p6, v5]
  · rw [p7, v6]
theorem c_allocate (C : CX h x (r, tl, tp, rf, ft, fp, sd) (M, mem, sh, ns, kd, cd) N (sl, nx, c, cr) (rn, rw_) (on_, ob)) (okn : okN M mem sh N) (hr : r = 1) (h4 : 4 ≤ M) (h8 : M ≤ 8) {k g b l w : Nat} (hk : k < 16) (n32 : N 256 < 32) (hg : g ≤ N 256) (hb : b + l ≤ 4096) (g0 : hI h (x + 86) 0 = nI g) (g1 : hI h (x + 86) 1 = nI b) (g2 : hI h (x + 86) 2 = nI l) : ∃ h1, f_X11_allocate x (nI k) (nI w) h = some ((), h1) ∧ CX h1 x (r, tl, tp, rf, ft, fp, sd) (M, mem, sh, ns, kd, cd) (alN M N k g b l w) (sl, nx, c, cr) (rn, rw_) (on_, ob) ∧ FC x h h1 ∧ hI h1 (x + 86) 1 = nI b := by
  have S := C.1
  have W := S.now
  obtain ⟨h8', e8, C8, F8, k8⟩ := c_add C n32 okn.2.2.2.2.2.2.2.1 (b := b) (l := l) (w := w) hg
  have S8 := C8.1
  have W8 := S8.now
  have kp := W8.kp (k := k) (by omega)
  obtain ⟨a, ha, h9, A, B⟩ := C8.run hr
  have b2 : hI h8' a 2 = nI M := B.2.1
  have j1 : hI h8' (x + 86) 1 = nI b := (k8 1).trans g1
  have j2 : hI h8' (x + 86) 2 = nI l := (k8 2).trans g2
  obtain ⟨C9, F9⟩ := C8.al (k := k) (b := b) (l := l) (by omega)
  rw [ceN_nt (by omega)] at C9
  refine ⟨_, ?_, C9, F8.trans F9, by rw [alP_o (by omega)]; exact j1⟩
  have ca := c_carry (h := sI (sI (sI (sI (sI (sI (sI (sI (sI (sI (sI h8' (x + 3 + 7 + k) 0 (nI 1)) (x + 3 + 7 + k) 1 (nI 0)) (x + 3 + 7 + k) 2 (nI 0)) (x + 3 + 7 + k) 3 (nI 0)) (x + 3 + 7 + k) 4 (nI 0)) (x + 3 + 7 + k) 5 (nI 0)) (x + 3 + 7 + k) 6 (nI 0)) (x + 3 + 7 + k) 7 (nI 0)) (x + 3 + 7 + k) 1 (nI 1)) (x + 3 + 7 + k) 2 (nI b)) (x + 3 + 7 + k) 6 (nI 3)) (p := x + 3 + 7 + k) kp (b := b) (l := l) (M := M) hb h4 h8
  unfold alP
  simp (disch := omega) only [nm, bd_s, ko_K, ka_K, koK_t, kaK_t, kr_s, kn_s, kn_n, hK_sI, hR_sI, hK_sL, hR_sL, hI_sL, hL_sI, hL_sL, hI_sI, hN_sI, hN_sL, ch_G, ch_T, nb_0, nb_1, zb_G, d_T, d_F, d_eT, d_eF, b2i_t, b2i_f, tn_nI, fa_lit, fa_litL, m1_e, nI_add, pk_mul, pk_sub, nI_leI, nI_ltI, nI_eq, le_T, le_F, lt_T, lt_F, eq_T, eq_F, if_pos, if_neg, m1_le, m1_lt', m1_gt, m1_le', m1_eq, m1_qe, b2i_eq0, in_N, in_n, in_I, ↓reduceIte, Bool.true_eq_false, Bool.false_eq_true, reduceCtorEq, decide_eq_true_eq, decide_eq_false_iff_not, Nat.not_lt, Nat.not_le, not_true_eq_false, not_false_eq_true, true_and, and_true, and_self, false_and, and_false, true_or, or_true, false_or, or_false, f_X11_allocate, f_X6_clear, S.k0, S.r0_2, S.r0_6, S.k86, W.k, g0, g1, g2, e8, S8.k0, S8.r0_2, S8.r0_6, S8.k86, W8.k, W8.r0, W8.k1, W8.rp, kp, j1, j2, h9, A.k, b2, ca]
end Al1
/-! alloc: the reference -/
def insH (h : aH) (m n k : Nat) : aH := (h.1, fun b j => if b = m + 34 ∧ 257 + 3 * (k + 1) ≤ j ∧ j < 257 + 3 * (n + 1) then hI h (m + 34) (j - 3) else hI h b j, h.2.2)
theorem hI_insH (h : aH) (m n k b j : Nat) : hI (insH h m n k) b j = if b = m + 34 ∧ 257 + 3 * (k + 1) ≤ j ∧ j < 257 + 3 * (n + 1) then hI h (m + 34) (j - 3) else hI h b j := rfl
theorem insH_0 {h : aH} {m n : Nat} : insH h m n n = h := by
  refine aH_ext (fun _ => rfl) (fun b j => ?_) (fun _ _ => rfl) (fun _ _ => rfl) rfl rfl
  rw [hI_insH, if_neg (by omega)]
theorem insH_s {h : aH} {m n k : Nat} (hk : k < n) : sI (sI (sI (insH h m n (k + 1)) (m + 34) (257 + 3 * (k + 1) + 0) (hI h (m + 34) (257 + 3 * k + 0))) (m + 34) (257 + 3 * (k + 1) + 1) (hI h (m + 34) (257 + 3 * k + 1))) (m + 34) (257 + 3 * (k + 1) + 2) (hI h (m + 34) (257 + 3 * k + 2)) = insH h m n k := by
  refine aH_ext (fun _ => rfl) (fun b j => ?_) (fun _ _ => rfl) (fun _ _ => rfl) rfl rfl
  rw [hI_sI, hI_sI, hI_sI, hI_insH, hI_insH]
  by_cases c : b = m + 34
  · subst c
    by_cases c0 : j = 257 + 3 * (k + 1) + 0
    · rw [if_neg (by omega), if_neg (by omega), if_pos ⟨rfl, c0⟩, if_pos (by omega)]; congr 1; omega
    · by_cases c1 : j = 257 + 3 * (k + 1) + 1
      · rw [if_neg (by omega), if_pos ⟨rfl, c1⟩, if_pos (by omega)]; congr 1; omega
      · by_cases c2 : j = 257 + 3 * (k + 1) + 2
        · rw [if_pos ⟨rfl, c2⟩, if_pos (by omega)]; congr 1; omega
        · rw [if_neg (by omega), if_neg (by omega), if_neg (by omega)]
          by_cases c3 : 257 + 3 * (k + 1 + 1) ≤ j ∧ j < 257 + 3 * (n + 1)
          · rw [if_pos ⟨rfl, c3⟩, if_pos (by omega)]
          · rw [if_neg (by omega), if_neg (by omega)]
  · rw [if_neg (by omega), if_neg (by omega), if_neg (by omega), if_neg (by omega), if_neg (by omega)]
theorem nI_m1 {k : Nat} (h : 1 ≤ k) : nI k + -nI 1 = nI (k - 1) := by rw [← Int32.sub_eq_add_neg, pk_sub h]
section Al2
variable {h : aH} {x r tl : Nat} {tp : Nat → Nat} {rf : Nat → Int32} {ft fp : Int32} {sd : Nat} {M mem sh : Nat} {ns : Nat → List Nat} {kd : Nat → Nat} {cd : Nat → List Nat} {N : tyN} {sl : Nat → tyN} {nx c cr : Nat} {rn : Nat} {rw_ : Nat → Nat} {on_ : Nat} {ob : Nat → Nat}
theorem m_cp3 {g : aH} (T : MS g (x + 107)) (k6 : Nat → Int32 → Int32 → Int32 → Int32 → aH → Option (Unit × aH)) {p b w : Int32} {k : Nat} (hk : k < 32) : f_X12_allocates_27 k6 FU (x + 107) p b w (nI (k + 1)) (nI 0) g = k6 (x + 107) p b w (nI k) (sI (sI (sI g (x + 107 + 34) (257 + 3 * (k + 1) + 0) (hI g (x + 107 + 34) (257 + 3 * k + 0))) (x + 107 + 34) (257 + 3 * (k + 1) + 1) (hI g (x + 107 + 34) (257 + 3 * k + 1))) (x + 107 + 34) (257 + 3 * (k + 1) + 2) (hI g (x + 107 + 34) (257 + 3 * k + 2))) := by
  have st : ∀ (n i : Nat) (f : aH), MS f (x + 107) → i < 3 → f_X12_allocates_27 k6 (n + 1) (x + 107) p b w (nI (k + 1)) (nI i) f = f_X12_allocates_27 k6 n (x + 107) p b w (nI (k + 1)) (nI (i + 1)) (sI f (x + 107 + 34) (257 + 3 * (k + 1) + i) (hI f (x + 107 + 34) (257 + 3 * k + i))) := by
    intro n i f G hi
    have e1 : k + 1 - 1 = k := by omega
    simp (disch := omega) only [nm, bd_s, ko_K, ka_K, koK_t, kaK_t, kr_s, kn_s, kn_n, hK_sI, hR_sI, hK_sL, hR_sL, hI_sL, hL_sI, hL_sL, hI_sI, hN_sI, hN_sL, ch_G, ch_T, nb_0, nb_1, zb_G, d_T, d_F, d_eT, d_eF, b2i_t, b2i_f, tn_nI, fa_lit, fa_litL, m1_e, nI_add, pk_mul, pk_sub, nI_leI, nI_ltI, nI_eq, le_T, le_F, lt_T, lt_F, eq_T, eq_F, if_pos, if_neg, m1_le, m1_lt', m1_gt, m1_le', m1_eq, m1_qe, b2i_eq0, in_N, in_n, in_I, ↓reduceIte, Bool.true_eq_false, Bool.false_eq_true, reduceCtorEq, decide_eq_true_eq, decide_eq_false_iff_not, Nat.not_lt, Nat.not_le, not_true_eq_false, not_false_eq_true, true_and, and_true, and_self, false_and, and_false, true_or, or_true, false_or, or_false, f_X12_allocates_27, b_X12_allocates_27, f_X12_objectOf, G.k, G.r47, G.k47, e1]
  obtain ⟨fn, hfn⟩ : ∃ n, FU = n + 1 + 1 + 1 + 1 := ⟨9996, rfl⟩
  rw [hfn, st _ 0 g T (by omega), st _ 1 _ (T.of rfl rfl) (by omega), st _ 2 _ (T.of rfl rfl) (by omega)]
  rw [hI_sI, if_neg (by omega), hI_sI, if_neg (by omega), hI_sI, if_neg (by omega)]
  have e1 := nI_m1 (k := k + 1) (by omega)
  rw [show k + 1 - 1 = k by omega] at e1
  simp (disch := omega) only [nm, bd_s, ko_K, ka_K, koK_t, kaK_t, kr_s, kn_s, kn_n, hK_sI, hR_sI, hK_sL, hR_sL, hI_sL, hL_sI, hL_sL, hI_sI, hN_sI, hN_sL, ch_G, ch_T, nb_0, nb_1, zb_G, d_T, d_F, d_eT, d_eF, b2i_t, b2i_f, tn_nI, fa_lit, fa_litL, m1_e, nI_add, pk_mul, pk_sub, nI_leI, nI_ltI, nI_eq, le_T, le_F, lt_T, lt_F, eq_T, eq_F, if_pos, if_neg, m1_le, m1_lt', m1_gt, m1_le', m1_eq, m1_qe, b2i_eq0, in_N, in_n, in_I, ↓reduceIte, Bool.true_eq_false, Bool.false_eq_true, reduceCtorEq, decide_eq_true_eq, decide_eq_false_iff_not, Nat.not_lt, Nat.not_le, not_true_eq_false, not_false_eq_true, true_and, and_true, and_self, false_and, and_false, true_or, or_true, false_or, or_false, f_X12_allocates_27, b_X12_allocates_27, e1]
theorem okN.mono (q : okN M mem sh N) {g : Nat} : ∀ d, g + d < N 256 → N (257 + 3 * g) ≤ N (257 + 3 * (g + d)) := by
  intro d
  induction d with
  | zero => intro _; exact Nat.le_refl _
  | succ d ih =>
    intro hd
    have i1 := ih (by omega)
    have a := (q.gt (g := g + d + 1) (by omega)).1
    unfold gst gen_ obB obL at a
    rw [if_neg (by omega), if_pos (by omega), show g + d + 1 - 1 = g + d by omega] at a
    try simp only at a
    rw [show g + (d + 1) = g + d + 1 by omega]
    omega
theorem m_insert (Q : CM h (x + 107) (r, tl, tp, rf, ft, fp, sd) (M, mem, sh, ns, kd, cd) N (sl, nx, c, cr) (rn, rw_) (on_, ob)) (okn : okN M mem sh N) {g b l : Nat} {p w : Int32} (hg : g ≤ N 256) (n32 : N 256 < 32) (l1 : 1 ≤ l) (b1 : gst (obB N) (obL N) g ≤ b) (b2 : b + l ≤ gen_ (N 256) mem (obB N) g) (bb : b ≤ 4096) : f_X12_allocates (x + 107) p (nI b) w h = f_X12_allocates_71 (x + 107) p (nI b) w (nI g) (insH h (x + 107) (N 256) g) := by
  have T := Q.1
  have e6 : hI h (x + 107 + 34) 256 = nI (N 256) := Q.n (by omega) (by omega)
  have L : ∀ (d k n : Nat), k = g + d → k ≤ N 256 → d < n → f_X12_allocates_6 n (x + 107) p (nI b) w (nI k) (insH h (x + 107) (N 256) k) = f_X12_allocates_71 (x + 107) p (nI b) w (nI g) (insH h (x + 107) (N 256) g) := by
    intro d
    induction d with
    | zero =>
      intro k n hk hn hd
      obtain ⟨n, rfl⟩ : ∃ k, n = k + 1 := ⟨n - 1, by omega⟩
      have hk : k = g := by omega
      subst hk
      have G : MS (insH h (x + 107) (N 256) k) (x + 107) := T.of rfl rfl
      by_cases z : k = 0
      · subst z
        simp (disch := omega) only [nm, bd_s, ko_K, ka_K, koK_t, kaK_t, kr_s, kn_s, kn_n, hK_sI, hR_sI, hK_sL, hR_sL, hI_sL, hL_sI, hL_sL, hI_sI, hN_sI, hN_sL, ch_G, ch_T, nb_0, nb_1, zb_G, d_T, d_F, d_eT, d_eF, b2i_t, b2i_f, tn_nI, fa_lit, fa_litL, m1_e, nI_add, pk_mul, pk_sub, nI_leI, nI_ltI, nI_eq, le_T, le_F, lt_T, lt_F, eq_T, eq_F, if_pos, if_neg, m1_le, m1_lt', m1_gt, m1_le', m1_eq, m1_qe, b2i_eq0, in_N, in_n, in_I, ↓reduceIte, Bool.true_eq_false, Bool.false_eq_true, reduceCtorEq, decide_eq_true_eq, decide_eq_false_iff_not, Nat.not_lt, Nat.not_le, not_true_eq_false, not_false_eq_true, true_and, and_true, and_self, false_and, and_false, true_or, or_true, false_or, or_false, f_X12_allocates_6, b_X12_allocates_6]
      · have v : hI (insH h (x + 107) (N 256) k) (x + 107 + 34) (257 + 3 * (k - 1) + 0) = nI (N (257 + 3 * (k - 1))) := by rw [hI_insH, if_neg (by omega)]; exact Q.n (by omega) (by omega)
        unfold gst obB obL at b1
        rw [if_neg z] at b1
        have o1 := okn.1 (257 + 3 * (k - 1))
        simp (disch := omega) only [nm, bd_s, ko_K, ka_K, koK_t, kaK_t, kr_s, kn_s, kn_n, hK_sI, hR_sI, hK_sL, hR_sL, hI_sL, hL_sI, hL_sL, hI_sI, hN_sI, hN_sL, ch_G, ch_T, nb_0, nb_1, zb_G, d_T, d_F, d_eT, d_eF, b2i_t, b2i_f, tn_nI, fa_lit, fa_litL, m1_e, nI_add, pk_mul, pk_sub, nI_leI, nI_ltI, nI_eq, le_T, le_F, lt_T, lt_F, eq_T, eq_F, if_pos, if_neg, m1_le, m1_lt', m1_gt, m1_le', m1_eq, m1_qe, b2i_eq0, in_N, in_n, in_I, ↓reduceIte, Bool.true_eq_false, Bool.false_eq_true, reduceCtorEq, decide_eq_true_eq, decide_eq_false_iff_not, Nat.not_lt, Nat.not_le, not_true_eq_false, not_false_eq_true, true_and, and_true, and_self, false_and, and_false, true_or, or_true, false_or, or_false, f_X12_allocates_6, b_X12_allocates_6, f_X12_objectOf, G.k, G.r47, G.k47, v]
    | succ d ih =>
      intro k n hk hn hd
      obtain ⟨n, rfl⟩ : ∃ k, n = k + 1 := ⟨n - 1, by omega⟩
      obtain ⟨k, rfl⟩ : ∃ q, k = q + 1 := ⟨k - 1, by omega⟩
      rw [← ih k n (by omega) (by omega) (by omega), ← insH_s (show k < N 256 by omega)]
      have G : MS (insH h (x + 107) (N 256) (k + 1)) (x + 107) := T.of rfl rfl
      have mo := okn.mono (g := g) d (by omega)
      have b2' : b + l ≤ N (257 + 3 * g) := by unfold gen_ obB at b2; rw [if_pos (by omega)] at b2; exact b2
      rw [show g + d = k by omega] at mo
      have v : hI (insH h (x + 107) (N 256) (k + 1)) (x + 107 + 34) (257 + 3 * k + 0) = nI (N (257 + 3 * k)) := by rw [hI_insH, if_neg (by omega)]; exact Q.n (by omega) (by omega)
      have o1 := okn.1 (257 + 3 * k)
      have c3 := m_cp3 G (f_X12_allocates_6 n) (p := p) (b := nI b) (w := w) (k := k) (by omega)
      have e1 : k + 1 - 1 = k := by omega
      have r0 : hI (insH h (x + 107) (N 256) (k + 1)) (x + 107 + 34) (257 + 3 * k + 0) = hI h (x + 107 + 34) (257 + 3 * k + 0) := by rw [hI_insH, if_neg (by omega)]
      have r1 : hI (insH h (x + 107) (N 256) (k + 1)) (x + 107 + 34) (257 + 3 * k + 1) = hI h (x + 107 + 34) (257 + 3 * k + 1) := by rw [hI_insH, if_neg (by omega)]
      have r2 : hI (insH h (x + 107) (N 256) (k + 1)) (x + 107 + 34) (257 + 3 * k + 2) = hI h (x + 107 + 34) (257 + 3 * k + 2) := by rw [hI_insH, if_neg (by omega)]
      rw [r0, r1, r2] at c3
      rw [← c3]
      simp (disch := omega) only [nm, bd_s, ko_K, ka_K, koK_t, kaK_t, kr_s, kn_s, kn_n, hK_sI, hR_sI, hK_sL, hR_sL, hI_sL, hL_sI, hL_sL, hI_sI, hN_sI, hN_sL, ch_G, ch_T, nb_0, nb_1, zb_G, d_T, d_F, d_eT, d_eF, b2i_t, b2i_f, tn_nI, fa_lit, fa_litL, m1_e, nI_add, pk_mul, pk_sub, nI_leI, nI_ltI, nI_eq, le_T, le_F, lt_T, lt_F, eq_T, eq_F, if_pos, if_neg, m1_le, m1_lt', m1_gt, m1_le', m1_eq, m1_qe, b2i_eq0, in_N, in_n, in_I, ↓reduceIte, Bool.true_eq_false, Bool.false_eq_true, reduceCtorEq, decide_eq_true_eq, decide_eq_false_iff_not, Nat.not_lt, Nat.not_le, not_true_eq_false, not_false_eq_true, true_and, and_true, and_self, false_and, and_false, true_or, or_true, false_or, or_false, f_X12_allocates_6, b_X12_allocates_6, f_X12_objectOf, G.k, G.r47, G.k47, e1, v]
  have := L (N 256 - g) (N 256) FU (by omega) (Nat.le_refl _) (FU_gt (by omega))
  rw [insH_0] at this
  rw [← this]
  simp (disch := omega) only [nm, bd_s, ko_K, ka_K, koK_t, kaK_t, kr_s, kn_s, kn_n, hK_sI, hR_sI, hK_sL, hR_sL, hI_sL, hL_sI, hL_sL, hI_sI, hN_sI, hN_sL, ch_G, ch_T, nb_0, nb_1, zb_G, d_T, d_F, d_eT, d_eF, b2i_t, b2i_f, tn_nI, fa_lit, fa_litL, m1_e, nI_add, pk_mul, pk_sub, nI_leI, nI_ltI, nI_eq, le_T, le_F, lt_T, lt_F, eq_T, eq_F, if_pos, if_neg, m1_le, m1_lt', m1_gt, m1_le', m1_eq, m1_qe, b2i_eq0, in_N, in_n, in_I, ↓reduceIte, Bool.true_eq_false, Bool.false_eq_true, reduceCtorEq, decide_eq_true_eq, decide_eq_false_iff_not, Nat.not_lt, Nat.not_le, not_true_eq_false, not_false_eq_true, true_and, and_true, and_self, false_and, and_false, true_or, or_true, false_or, or_false, f_X12_allocates, f_X12_objectMany, T.k, T.r47, T.k47, e6]
theorem m_allocates (Q : CM h (x + 107) (r, tl, tp, rf, ft, fp, sd) (M, mem, sh, ns, kd, cd) N (sl, nx, c, cr) (rn, rw_) (on_, ob)) (okn : okN M mem sh N) (h4 : 4 ≤ M) (h8 : M ≤ 8) (mm : mem ≤ 1024) {k g b l w : Nat} (hk : k < 16) (hg : g ≤ N 256) (n32 : N 256 < 32) (l1 : 1 ≤ l) (b1 : gst (obB N) (obL N) g ≤ b) (b2 : b + l ≤ gen_ (N 256) mem (obB N) g) (e57 : hI h (x + 107) 57 = nI l) : ∃ h1, f_X12_allocates (x + 107) (nI k) (nI b) (nI w) h = some ((), h1) ∧ CM h1 (x + 107) (r, tl, tp, rf, ft, fp, sd) (M, mem, sh, ns, kd, cd) (alN M N k g b l w) (sl, nx, c, cr) (rn, rw_) (on_, ob) ∧ FM x h h1 := by
  have b3 := (okn.gt hg).2
  have s0 := m_insert Q okn (p := nI k) (w := nI w) hg n32 l1 b1 b2 (by omega)
  have T := Q.1
  have m1 : hI h (x + 107 + 28) 4 = nI M := Q.2.2.1.2.1
  have e6 : hI h (x + 107 + 34) 256 = nI (N 256) := Q.n (by omega) (by omega)
  obtain ⟨g1, hg1⟩ : ∃ g1, g1 = sI (sI (sI (sI (insH h (x + 107) (N 256) g) (x + 107 + 34) (257 + 3 * g) (nI b)) (x + 107 + 34) (257 + 3 * g + 1) (nI l)) (x + 107 + 34) (257 + 3 * g + 2) (nI w)) (x + 107 + 34) 256 (nI (N 256 + 1)) := ⟨_, rfl⟩
  have o1 : ∀ b j, ¬ b = x + 107 + 34 → hI g1 b j = hI h b j := fun b j q => by rw [hg1, hI_sI, if_neg (by omega), hI_sI, if_neg (by omega), hI_sI, if_neg (by omega), hI_sI, if_neg (by omega), hI_insH, if_neg (by omega)]
  have Q1 : CM g1 (x + 107) (r, tl, tp, rf, ft, fp, sd) (M, mem, sh, ns, kd, cd) (inN N g b l w) (sl, nx, c, cr) (rn, rw_) (on_, ob) := by
    refine Q.nc (by rw [hg1]; rfl) (by rw [hg1]; rfl) (fun b j _ q => o1 b j q) (by rw [hg1]; rfl) (fun _ _ => by rw [hg1]; rfl) (fun j hj => ?_)
    by_cases lo : j < 256 ∨ 353 ≤ j
    · rw [hg1, hI_sI, if_neg (by omega), hI_sI, if_neg (by omega), hI_sI, if_neg (by omega), hI_sI, if_neg (by omega), hI_insH, if_neg (by omega), Q.2.2.2.1 j hj]
      unfold mN; rw [inN_o n32 hg lo]
    · rw [mN_n (by omega), hg1, hI_sI]
      unfold inN
      by_cases z : j = 256
      · rw [if_pos ⟨rfl, z⟩, if_pos z]
      · rw [if_neg (by omega), if_neg z, hI_sI]
        by_cases z2 : j = 257 + 3 * g + 2
        · rw [if_pos ⟨rfl, z2⟩, if_neg (by omega), if_neg (by omega), if_pos (by omega)]
        · rw [if_neg (by omega), hI_sI]
          by_cases z1 : j = 257 + 3 * g + 1
          · rw [if_pos ⟨rfl, z1⟩, if_neg (by omega), if_pos (by omega)]
          · rw [if_neg (by omega), hI_sI]
            by_cases z0 : j = 257 + 3 * g
            · rw [if_pos ⟨rfl, z0⟩, if_pos z0]
            · rw [if_neg (by omega), if_neg z0, if_neg (by omega), if_neg (by omega), hI_insH]
              by_cases z3 : 257 + 3 * (g + 1) ≤ j ∧ j < 257 + 3 * (N 256 + 1)
              · rw [if_pos ⟨rfl, z3⟩, if_pos z3]; exact Q.n (by omega) (by omega)
              · rw [if_neg (by omega), if_neg z3]; exact Q.n (by omega) (by omega)
  have F1 : FM x h g1 := by
    rw [hg1]
    refine ⟨rfl, rfl, rfl, rfl, fun b q j => ⟨?_, rfl⟩⟩
    rw [← hg1]; exact o1 b j (by omega)
  obtain ⟨Q2, F2⟩ := Q1.enc b (b + l) (lexN b (b + l) M)
  have en := m_encodes Q1.1 ((o1 _ _ (by omega)).trans m1) (b := b) (l := l) (by omega) h4 h8
  have g52 := enc_52 g1 (x + 107) b (b + l) (lexN b (b + l) M)
  have g53 := enc_53 g1 (x + 107) b (b + l) (lexN b (b + l) M)
  have g54 := enc_54 g1 (x + 107) b (b + l) (lexN b (b + l) M)
  have g57 : hI (encM g1 (x + 107) b (b + l) (lexN b (b + l) M)) (x + 107) 57 = nI l := by
    unfold encM; rw [hI_sI, if_neg (by omega), hI_sI, if_neg (by omega), hI_sI, if_neg (by omega), o1 _ _ (by omega)]; exact e57
  have g0 : hI (insH h (x + 107) (N 256) g) (x + 107) 57 = nI l := by rw [hI_insH, if_neg (by omega)]; exact e57
  have gm : hI (insH h (x + 107) (N 256) g) (x + 107 + 34) 256 = nI (N 256) := by rw [hI_insH, if_neg (by omega)]; exact e6
  have T0 : MS (insH h (x + 107) (N 256) g) (x + 107) := T.of rfl rfl
  have T2 := Q2.1
  have le := lexN_le b (b + l) M
  have la := m_laysBounds T2 (k := 8 * k) (by omega) Q2.2.2.1.2.1 h8 g52 g53 g54 (by omega) (by omega) (by omega)
  unfold alN ceN
  obtain ⟨Q3, F3⟩ := Q2.bd (k := k) (e := lexN b (b + l) M) (b := b) (t := b + l) (by omega)
  generalize lexN b (b + l) M = e at *
  generalize encM g1 (x + 107) b (b + l) e = g2 at *
  have g57 : hI (layM g2 (x + 107) (8 * k) e b (b + l) M) (x + 107) 57 = nI l := lay_f.trans g57
  generalize layM g2 (x + 107) (8 * k) e b (b + l) M = g3 at *
  obtain ⟨Q4, F4⟩ := Q3.u1 (a := 8 * k) (v := 1) (by omega) (by omega)
  obtain ⟨Q5, F5⟩ := Q4.u1 (a := 8 * k + 1) (v := b) (by omega) (by omega)
  obtain ⟨Q6, F6⟩ := Q5.u1 (a := 8 * k + 5) (v := 3) (by omega) (by omega)
  obtain ⟨Q7, F7⟩ := Q6.u1 (a := 8 * k + 6) (v := 0) (by omega) (by omega)
  have n40 : updN (updN (updN (updN (bdN (inN N g b l w) k e (botN b e M) (topN (b + l) e M)) (8 * k) 1) (8 * k + 1) b) (8 * k + 5) 3) (8 * k + 6) 0 1377 ≤ 40 := by
    rw [updN_o (by omega), updN_o (by omega), updN_o (by omega), updN_o (by omega), bdN_o (by omega) (by omega) (by omega), inN_o n32 hg (by omega)]
    exact okn.2.2.2.2.2.2.2.1
  obtain ⟨g8, e8, Q8, F8⟩ := Q7.nt n40 0 b l
  have T3 := Q3.1
  refine ⟨g8, ?_, Q8, (((F1.trans F2).trans (F3.trans F4)).trans ((F5.trans F6).trans F7)).trans F8⟩
  rw [s0]
  have fold : sI (sI (sI (sI (insH h (x + 107) (N 256) g) (x + 107 + 34) (257 + 3 * g) (nI b)) (x + 107 + 34) (257 + 3 * g + 1) (nI l)) (x + 107 + 34) (257 + 3 * g + 2) (nI w)) (x + 107 + 34) 256 (nI (N 256 + 1)) = g1 := hg1.symm
  generalize insH h (x + 107) (N 256) g = h0 at *
  simp (disch := omega) only [nm, bd_s, ko_K, ka_K, koK_t, kaK_t, kr_s, kn_s, kn_n, hK_sI, hR_sI, hK_sL, hR_sL, hI_sL, hL_sI, hL_sL, hI_sI, hN_sI, hN_sL, ch_G, ch_T, nb_0, nb_1, zb_G, d_T, d_F, d_eT, d_eF, b2i_t, b2i_f, tn_nI, fa_lit, fa_litL, m1_e, nI_add, pk_mul, pk_sub, nI_leI, nI_ltI, nI_eq, le_T, le_F, lt_T, lt_F, eq_T, eq_F, if_pos, if_neg, m1_le, m1_lt', m1_gt, m1_le', m1_eq, m1_qe, b2i_eq0, in_N, in_n, in_I, ↓reduceIte, Bool.true_eq_false, Bool.false_eq_true, reduceCtorEq, decide_eq_true_eq, decide_eq_false_iff_not, Nat.not_lt, Nat.not_le, not_true_eq_false, not_false_eq_true, true_and, and_true, and_self, false_and, and_false, true_or, or_true, false_or, or_false, f_X12_allocates_71, T0.k, T0.r47, T0.k47, g0, gm, fold, en, T2.k, la, T3.k, T3.r47, T3.k47, g57, e8]
end Al2
