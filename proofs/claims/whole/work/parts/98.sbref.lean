/-! alloc: the reference -/
def insH (h : aH) (m n k : Nat) : aH := (h.1, fun b j => if b = m + 34 ∧ 257 + 3 * (k + 1) ≤ j ∧ j < 257 + 3 * (n + 1) then hI h (m + 34) (j - 3) else hI h b j, h.2.2)
theorem hI_insH (h : aH) (m n k b j : Nat) : hI (insH h m n k) b j = if b = m + 34 ∧ 257 + 3 * (k + 1) ≤ j ∧ j < 257 + 3 * (n + 1) then hI h (m + 34) (j - 3) else hI h b j := rfl
theorem insH_0 {h : aH} {m n : Nat} : insH h m n n = h := by
  refine aH_ext (fun _ => rfl) (fun b j => ?_) (fun _ _ => rfl) (fun _ _ => rfl) rfl rfl
  rw [hI_insH, if_neg (by omega)]
theorem insH_s {h : aH} {m n k : Nat} (hk : k < n) : sI (sI (sI (insH h m n (k + 1)) (m + 34) (257 + 3 * (k + 1) + 0) (hI h (m + 34) (257 + 3 * k + 0))) (m + 34) (257 + 3 * (k + 1) + 1) (hI h (m + 34) (257 + 3 * k + 1))) (m + 34) (257 + 3 * (k + 1) + 2) (hI h (m + 34) (257 + 3 * k + 2)) = insH h m n k := by
  refine aH_ext (fun _ => rfl) (fun b j => ?_) (fun _ _ => rfl) (fun _ _ => rfl) rfl rfl
  rw [hI_sI, hI_sI, hI_sI, hI_insH, hI_insH]
  by_cases c : b = m + 34
  · subst c
    by_cases c0 : j = 257 + 3 * (k + 1) + 0
    · rw [if_neg (by omega), if_neg (by omega), if_pos ⟨rfl, c0⟩, if_pos (by omega)]; congr 1; omega
    · by_cases c1 : j = 257 + 3 * (k + 1) + 1
      · rw [if_neg (by omega), if_pos ⟨rfl, c1⟩, if_pos (by omega)]; congr 1; omega
      · by_cases c2 : j = 257 + 3 * (k + 1) + 2
        · rw [if_pos ⟨rfl, c2⟩, if_pos (by omega)]; congr 1; omega
        · rw [if_neg (by omega), if_neg (by omega), if_neg (by omega)]
          by_cases c3 : 257 + 3 * (k + 1 + 1) ≤ j ∧ j < 257 + 3 * (n + 1)
          · rw [if_pos ⟨rfl, c3⟩, if_pos (by omega)]
          · rw [if_neg (by omega), if_neg (by omega)]
  · rw [if_neg (by omega), if_neg (by omega), if_neg (by omega), if_neg (by omega), if_neg (by omega)]
theorem nI_m1 {k : Nat} (h : 1 ≤ k) : nI k + -nI 1 = nI (k - 1) := by rw [← Int32.sub_eq_add_neg, pk_sub h]
section Al2
variable {h : aH} {x r tl : Nat} {tp : Nat → Nat} {rf : Nat → Int32} {ft fp : Int32} {sd : Nat} {M mem sh : Nat} {ns : Nat → List Nat} {kd : Nat → Nat} {cd : Nat → List Nat} {N : tyN} {sl : Nat → tyN} {nx c cr : Nat} {rn : Nat} {rw_ : Nat → Nat} {on_ : Nat} {ob : Nat → Nat}
theorem m_cp3 {g : aH} (T : MS g (x + 107)) (k6 : Nat → Int32 → Int32 → Int32 → Int32 → aH → Option (Unit × aH)) {p b w : Int32} {k : Nat} (hk : k < 32) : f_X12_allocates_27 k6 FU (x + 107) p b w (nI (k + 1)) (nI 0) g = k6 (x + 107) p b w (nI k) (sI (sI (sI g (x + 107 + 34) (257 + 3 * (k + 1) + 0) (hI g (x + 107 + 34) (257 + 3 * k + 0))) (x + 107 + 34) (257 + 3 * (k + 1) + 1) (hI g (x + 107 + 34) (257 + 3 * k + 1))) (x + 107 + 34) (257 + 3 * (k + 1) + 2) (hI g (x + 107 + 34) (257 + 3 * k + 2))) := by
  have st : ∀ (n i : Nat) (f : aH), MS f (x + 107) → i < 3 → f_X12_allocates_27 k6 (n + 1) (x + 107) p b w (nI (k + 1)) (nI i) f = f_X12_allocates_27 k6 n (x + 107) p b w (nI (k + 1)) (nI (i + 1)) (sI f (x + 107 + 34) (257 + 3 * (k + 1) + i) (hI f (x + 107 + 34) (257 + 3 * k + i))) := by
    intro n i f G hi
    have e1 : k + 1 - 1 = k := by omega
    simp (disch := omega) only [nm, bd_s, ko_K, ka_K, koK_t, kaK_t, kr_s, kn_s, kn_n, hK_sI, hR_sI, hK_sL, hR_sL, hI_sL, hL_sI, hL_sL, hI_sI, hN_sI, hN_sL, ch_G, ch_T, nb_0, nb_1, zb_G, d_T, d_F, d_eT, d_eF, b2i_t, b2i_f, tn_nI, fa_lit, fa_litL, m1_e, nI_add, pk_mul, pk_sub, nI_leI, nI_ltI, nI_eq, le_T, le_F, lt_T, lt_F, eq_T, eq_F, if_pos, if_neg, m1_le, m1_lt', m1_gt, m1_le', m1_eq, m1_qe, b2i_eq0, in_N, in_n, in_I, ↓reduceIte, Bool.true_eq_false, Bool.false_eq_true, reduceCtorEq, decide_eq_true_eq, decide_eq_false_iff_not, Nat.not_lt, Nat.not_le, not_true_eq_false, not_false_eq_true, true_and, and_true, and_self, false_and, and_false, true_or, or_true, false_or, or_false, f_X12_allocates_27, b_X12_allocates_27, f_X12_objectOf, G.k, G.r47, G.k47, e1]
  obtain ⟨fn, hfn⟩ : ∃ n, FU = n + 1 + 1 + 1 + 1 := ⟨9996, rfl⟩
  rw [hfn]
  have G1 : MS (sI g (x + 107 + 34) (257 + 3 * (k + 1) + 0) (hI g (x + 107 + 34) (257 + 3 * k + 0))) (x + 107) := T.of rfl rfl
  have q0 := st (fn + 1 + 1 + 1) 0 g T (by omega)
  have q1 := st (fn + 1 + 1) 1 _ G1 (by omega)
  generalize hA : sI g (x + 107 + 34) (257 + 3 * (k + 1) + 0) (hI g (x + 107 + 34) (257 + 3 * k + 0)) = A at *
  have G2 : MS (sI A (x + 107 + 34) (257 + 3 * (k + 1) + 1) (hI A (x + 107 + 34) (257 + 3 * k + 1))) (x + 107) := G1.of rfl rfl
  have q2 := st (fn + 1) 2 _ G2 (by omega)
  refine q0.trans (q1.trans (q2.trans ?_))
  subst hA
  rw [hI_sI, if_neg (by omega), hI_sI, if_neg (by omega), hI_sI, if_neg (by omega)]
  have e1 := nI_m1 (k := k + 1) (by omega)
  rw [show k + 1 - 1 = k by omega] at e1
  simp (disch := omega) only [nm, bd_s, ko_K, ka_K, koK_t, kaK_t, kr_s, kn_s, kn_n, hK_sI, hR_sI, hK_sL, hR_sL, hI_sL, hL_sI, hL_sL, hI_sI, hN_sI, hN_sL, ch_G, ch_T, nb_0, nb_1, zb_G, d_T, d_F, d_eT, d_eF, b2i_t, b2i_f, tn_nI, fa_lit, fa_litL, m1_e, nI_add, pk_mul, pk_sub, nI_leI, nI_ltI, nI_eq, le_T, le_F, lt_T, lt_F, eq_T, eq_F, if_pos, if_neg, m1_le, m1_lt', m1_gt, m1_le', m1_eq, m1_qe, b2i_eq0, in_N, in_n, in_I, ↓reduceIte, Bool.true_eq_false, Bool.false_eq_true, reduceCtorEq, decide_eq_true_eq, decide_eq_false_iff_not, Nat.not_lt, Nat.not_le, not_true_eq_false, not_false_eq_true, true_and, and_true, and_self, false_and, and_false, true_or, or_true, false_or, or_false, f_X12_allocates_27, b_X12_allocates_27, e1]
theorem okN.mono (q : okN M mem sh N) {g : Nat} : ∀ d, g + d < N 256 → N (257 + 3 * g) ≤ N (257 + 3 * (g + d)) := by
  intro d
  induction d with
  | zero => intro _; exact Nat.le_refl _
  | succ d ih =>
    intro hd
    have i1 := ih (by omega)
    have a := (q.gt (g := g + d + 1) (by omega)).1
    unfold gst gen_ obB obL at a
    rw [if_neg (by omega), if_pos (by omega), show g + d + 1 - 1 = g + d by omega] at a
    try simp only at a
    rw [show g + (d + 1) = g + d + 1 by omega]
    omega
theorem m_insert (Q : CM h (x + 107) (r, tl, tp, rf, ft, fp, sd) (M, mem, sh, ns, kd, cd) N (sl, nx, c, cr) (rn, rw_) (on_, ob)) (okn : okN M mem sh N) {g b l : Nat} {p w : Int32} (hg : g ≤ N 256) (n32 : N 256 < 32) (l1 : 1 ≤ l) (b1 : gst (obB N) (obL N) g ≤ b) (b2 : b + l ≤ gen_ (N 256) mem (obB N) g) (bb : b ≤ 4096) : f_X12_allocates (x + 107) p (nI b) w h = f_X12_allocates_71 (x + 107) p (nI b) w (nI g) (insH h (x + 107) (N 256) g) := by
  have T := Q.1
  have e6 : hI h (x + 107 + 34) 256 = nI (N 256) := Q.n (by omega) (by omega)
  have L : ∀ (d k n : Nat), k = g + d → k ≤ N 256 → d < n → f_X12_allocates_6 n (x + 107) p (nI b) w (nI k) (insH h (x + 107) (N 256) k) = f_X12_allocates_71 (x + 107) p (nI b) w (nI g) (insH h (x + 107) (N 256) g) := by
    intro d
    induction d with
    | zero =>
      intro k n hk hn hd
      obtain ⟨n, rfl⟩ : ∃ k, n = k + 1 := ⟨n - 1, by omega⟩
      have hk : k = g := by omega
      subst hk
      have G : MS (insH h (x + 107) (N 256) k) (x + 107) := T.of rfl rfl
      by_cases z : k = 0
      · subst z
        simp (disch := omega) only [nm, bd_s, ko_K, ka_K, koK_t, kaK_t, kr_s, kn_s, kn_n, hK_sI, hR_sI, hK_sL, hR_sL, hI_sL, hL_sI, hL_sL, hI_sI, hN_sI, hN_sL, ch_G, ch_T, nb_0, nb_1, zb_G, d_T, d_F, d_eT, d_eF, b2i_t, b2i_f, tn_nI, fa_lit, fa_litL, m1_e, nI_add, pk_mul, pk_sub, nI_leI, nI_ltI, nI_eq, le_T, le_F, lt_T, lt_F, eq_T, eq_F, if_pos, if_neg, m1_le, m1_lt', m1_gt, m1_le', m1_eq, m1_qe, b2i_eq0, in_N, in_n, in_I, ↓reduceIte, Bool.true_eq_false, Bool.false_eq_true, reduceCtorEq, decide_eq_true_eq, decide_eq_false_iff_not, Nat.not_lt, Nat.not_le, not_true_eq_false, not_false_eq_true, true_and, and_true, and_self, false_and, and_false, true_or, or_true, false_or, or_false, f_X12_allocates_6, b_X12_allocates_6]
      · have v : hI (insH h (x + 107) (N 256) k) (x + 107 + 34) (257 + 3 * (k - 1) + 0) = nI (N (257 + 3 * (k - 1))) := by rw [hI_insH, if_neg (by omega)]; exact Q.n (by omega) (by omega)
        unfold gst obB obL at b1
        rw [if_neg z] at b1
        have o1 := okn.1 (257 + 3 * (k - 1))
        simp (disch := omega) only [nm, bd_s, ko_K, ka_K, koK_t, kaK_t, kr_s, kn_s, kn_n, hK_sI, hR_sI, hK_sL, hR_sL, hI_sL, hL_sI, hL_sL, hI_sI, hN_sI, hN_sL, ch_G, ch_T, nb_0, nb_1, zb_G, d_T, d_F, d_eT, d_eF, b2i_t, b2i_f, tn_nI, fa_lit, fa_litL, m1_e, nI_add, pk_mul, pk_sub, nI_leI, nI_ltI, nI_eq, le_T, le_F, lt_T, lt_F, eq_T, eq_F, if_pos, if_neg, m1_le, m1_lt', m1_gt, m1_le', m1_eq, m1_qe, b2i_eq0, in_N, in_n, in_I, ↓reduceIte, Bool.true_eq_false, Bool.false_eq_true, reduceCtorEq, decide_eq_true_eq, decide_eq_false_iff_not, Nat.not_lt, Nat.not_le, not_true_eq_false, not_false_eq_true, true_and, and_true, and_self, false_and, and_false, true_or, or_true, false_or, or_false, f_X12_allocates_6, b_X12_allocates_6, f_X12_objectOf, G.k, G.r47, G.k47, v]
    | succ d ih =>
      intro k n hk hn hd
      obtain ⟨n, rfl⟩ : ∃ k, n = k + 1 := ⟨n - 1, by omega⟩
      obtain ⟨k, rfl⟩ : ∃ q, k = q + 1 := ⟨k - 1, by omega⟩
      rw [← ih k n (by omega) (by omega) (by omega), ← insH_s (show k < N 256 by omega)]
      have G : MS (insH h (x + 107) (N 256) (k + 1)) (x + 107) := T.of rfl rfl
      have mo := okn.mono (g := g) d (by omega)
      have b2' : b + l ≤ N (257 + 3 * g) := by unfold gen_ obB at b2; rw [if_pos (by omega)] at b2; exact b2
      rw [show g + d = k by omega] at mo
      have v : hI (insH h (x + 107) (N 256) (k + 1)) (x + 107 + 34) (257 + 3 * k + 0) = nI (N (257 + 3 * k)) := by rw [hI_insH, if_neg (by omega)]; exact Q.n (by omega) (by omega)
      have o1 := okn.1 (257 + 3 * k)
      have c3 := m_cp3 G (f_X12_allocates_6 n) (p := p) (b := nI b) (w := w) (k := k) (by omega)
      have e1 : k + 1 - 1 = k := by omega
      have r0 : hI (insH h (x + 107) (N 256) (k + 1)) (x + 107 + 34) (257 + 3 * k + 0) = hI h (x + 107 + 34) (257 + 3 * k + 0) := by rw [hI_insH, if_neg (by omega)]
      have r1 : hI (insH h (x + 107) (N 256) (k + 1)) (x + 107 + 34) (257 + 3 * k + 1) = hI h (x + 107 + 34) (257 + 3 * k + 1) := by rw [hI_insH, if_neg (by omega)]
      have r2 : hI (insH h (x + 107) (N 256) (k + 1)) (x + 107 + 34) (257 + 3 * k + 2) = hI h (x + 107 + 34) (257 + 3 * k + 2) := by rw [hI_insH, if_neg (by omega)]
      rw [r0, r1, r2] at c3
      rw [← c3]
      simp (disch := omega) only [nm, bd_s, ko_K, ka_K, koK_t, kaK_t, kr_s, kn_s, kn_n, hK_sI, hR_sI, hK_sL, hR_sL, hI_sL, hL_sI, hL_sL, hI_sI, hN_sI, hN_sL, ch_G, ch_T, nb_0, nb_1, zb_G, d_T, d_F, d_eT, d_eF, b2i_t, b2i_f, tn_nI, fa_lit, fa_litL, m1_e, nI_add, pk_mul, pk_sub, nI_leI, nI_ltI, nI_eq, le_T, le_F, lt_T, lt_F, eq_T, eq_F, if_pos, if_neg, m1_le, m1_lt', m1_gt, m1_le', m1_eq, m1_qe, b2i_eq0, in_N, in_n, in_I, ↓reduceIte, Bool.true_eq_false, Bool.false_eq_true, reduceCtorEq, decide_eq_true_eq, decide_eq_false_iff_not, Nat.not_lt, Nat.not_le, not_true_eq_false, not_false_eq_true, true_and, and_true, and_self, false_and, and_false, true_or, or_true, false_or, or_false, f_X12_allocates_6, b_X12_allocates_6, f_X12_objectOf, G.k, G.r47, G.k47, e1, v]
  have := L (N 256 - g) (N 256) FU (by omega) (Nat.le_refl _) (FU_gt (by omega))
  rw [insH_0] at this
  rw [← this]
  simp (disch := omega) only [nm, bd_s, ko_K, ka_K, koK_t, kaK_t, kr_s, kn_s, kn_n, hK_sI, hR_sI, hK_sL, hR_sL, hI_sL, hL_sI, hL_sL, hI_sI, hN_sI, hN_sL, ch_G, ch_T, nb_0, nb_1, zb_G, d_T, d_F, d_eT, d_eF, b2i_t, b2i_f, tn_nI, fa_lit, fa_litL, m1_e, nI_add, pk_mul, pk_sub, nI_leI, nI_ltI, nI_eq, le_T, le_F, lt_T, lt_F, eq_T, eq_F, if_pos, if_neg, m1_le, m1_lt', m1_gt, m1_le', m1_eq, m1_qe, b2i_eq0, in_N, in_n, in_I, ↓reduceIte, Bool.true_eq_false, Bool.false_eq_true, reduceCtorEq, decide_eq_true_eq, decide_eq_false_iff_not, Nat.not_lt, Nat.not_le, not_true_eq_false, not_false_eq_true, true_and, and_true, and_self, false_and, and_false, true_or, or_true, false_or, or_false, f_X12_allocates, f_X12_objectMany, T.k, T.r47, T.k47, e6]
theorem m_allocates (Q : CM h (x + 107) (r, tl, tp, rf, ft, fp, sd) (M, mem, sh, ns, kd, cd) N (sl, nx, c, cr) (rn, rw_) (on_, ob)) (okn : okN M mem sh N) (h4 : 4 ≤ M) (h8 : M ≤ 8) (mm : mem ≤ 1024) {k g b l w : Nat} (hk : k < 16) (hg : g ≤ N 256) (n32 : N 256 < 32) (l1 : 1 ≤ l) (b1 : gst (obB N) (obL N) g ≤ b) (b2 : b + l ≤ gen_ (N 256) mem (obB N) g) (e57 : hI h (x + 107) 57 = nI l) : ∃ h1, f_X12_allocates (x + 107) (nI k) (nI b) (nI w) h = some ((), h1) ∧ CM h1 (x + 107) (r, tl, tp, rf, ft, fp, sd) (M, mem, sh, ns, kd, cd) (alN M N k g b l w) (sl, nx, c, cr) (rn, rw_) (on_, ob) ∧ FM x h h1 := by
  have b3 := (okn.gt hg).2
  have s0 := m_insert Q okn (p := nI k) (w := nI w) hg n32 l1 b1 b2 (by omega)
  have T := Q.1
  have m1 : hI h (x + 107 + 28) 4 = nI M := Q.2.2.1.2.1
  have e6 : hI h (x + 107 + 34) 256 = nI (N 256) := Q.n (by omega) (by omega)
  obtain ⟨g1, hg1⟩ : ∃ g1, g1 = sI (sI (sI (sI (insH h (x + 107) (N 256) g) (x + 107 + 34) (257 + 3 * g) (nI b)) (x + 107 + 34) (257 + 3 * g + 1) (nI l)) (x + 107 + 34) (257 + 3 * g + 2) (nI w)) (x + 107 + 34) 256 (nI (N 256 + 1)) := ⟨_, rfl⟩
  have o1 : ∀ b j, ¬ b = x + 107 + 34 → hI g1 b j = hI h b j := fun b j q => by rw [hg1, hI_sI, if_neg (by omega), hI_sI, if_neg (by omega), hI_sI, if_neg (by omega), hI_sI, if_neg (by omega), hI_insH, if_neg (by omega)]
  have Q1 : CM g1 (x + 107) (r, tl, tp, rf, ft, fp, sd) (M, mem, sh, ns, kd, cd) (inN N g b l w) (sl, nx, c, cr) (rn, rw_) (on_, ob) := by
    refine Q.nc (by rw [hg1]; rfl) (by rw [hg1]; rfl) (fun b j _ q => o1 b j q) (by rw [hg1]; rfl) (fun _ _ => by rw [hg1]; rfl) (fun j hj => ?_)
    by_cases lo : j < 256 ∨ 353 ≤ j
    · rw [hg1, hI_sI, if_neg (by omega), hI_sI, if_neg (by omega), hI_sI, if_neg (by omega), hI_sI, if_neg (by omega), hI_insH, if_neg (by omega), Q.2.2.2.1 j hj]
      unfold mN; rw [inN_o n32 hg lo]
    · rw [mN_n (by omega), hg1, hI_sI]
      unfold inN
      by_cases z : j = 256
      · rw [if_pos ⟨rfl, z⟩, if_pos z]
      · rw [if_neg (by omega), if_neg z, hI_sI]
        by_cases z2 : j = 257 + 3 * g + 2
        · rw [if_pos ⟨rfl, z2⟩, if_neg (by omega), if_neg (by omega), if_pos (by omega)]
        · rw [if_neg (by omega), hI_sI]
          by_cases z1 : j = 257 + 3 * g + 1
          · rw [if_pos ⟨rfl, z1⟩, if_neg (by omega), if_pos (by omega)]
          · rw [if_neg (by omega), hI_sI]
            by_cases z0 : j = 257 + 3 * g
            · rw [if_pos ⟨rfl, z0⟩, if_pos z0]
            · rw [if_neg (by omega), if_neg z0, if_neg (by omega), if_neg (by omega), hI_insH]
              by_cases z3 : 257 + 3 * (g + 1) ≤ j ∧ j < 257 + 3 * (N 256 + 1)
              · rw [if_pos ⟨rfl, z3⟩, if_pos z3]; exact Q.n (by omega) (by omega)
              · rw [if_neg (by omega), if_neg z3]; exact Q.n (by omega) (by omega)
  have F1 : FM x h g1 := by
    rw [hg1]
    refine ⟨rfl, rfl, rfl, rfl, fun b q j => ⟨?_, rfl⟩⟩
    rw [← hg1]; exact o1 b j (by omega)
  obtain ⟨Q2, F2⟩ := Q1.enc b (b + l) (lexN b (b + l) M)
  have en := m_encodes Q1.1 ((o1 _ _ (by omega)).trans m1) (b := b) (l := l) (by omega) h4 h8
  have g52 := enc_52 g1 (x + 107) b (b + l) (lexN b (b + l) M)
  have g53 := enc_53 g1 (x + 107) b (b + l) (lexN b (b + l) M)
  have g54 := enc_54 g1 (x + 107) b (b + l) (lexN b (b + l) M)
  have g57 : hI (encM g1 (x + 107) b (b + l) (lexN b (b + l) M)) (x + 107) 57 = nI l := by
    unfold encM; rw [hI_sI, if_neg (by omega), hI_sI, if_neg (by omega), hI_sI, if_neg (by omega), o1 _ _ (by omega)]; exact e57
  have g0 : hI (insH h (x + 107) (N 256) g) (x + 107) 57 = nI l := by rw [hI_insH, if_neg (by omega)]; exact e57
  have gm : hI (insH h (x + 107) (N 256) g) (x + 107 + 34) 256 = nI (N 256) := by rw [hI_insH, if_neg (by omega)]; exact e6
  have T0 : MS (insH h (x + 107) (N 256) g) (x + 107) := T.of rfl rfl
  have T2 := Q2.1
  have le := lexN_le b (b + l) M
  have la := m_laysBounds T2 (k := 8 * k) (by omega) Q2.2.2.1.2.1 h8 g52 g53 g54 (by omega) (by omega) (by omega)
  unfold alN ceN
  obtain ⟨Q3, F3⟩ := Q2.bd (k := k) (e := lexN b (b + l) M) (b := b) (t := b + l) (by omega)
  generalize lexN b (b + l) M = e at *
  generalize encM g1 (x + 107) b (b + l) e = g2 at *
  have g57 : hI (layM g2 (x + 107) (8 * k) e b (b + l) M) (x + 107) 57 = nI l := lay_f.trans g57
  generalize layM g2 (x + 107) (8 * k) e b (b + l) M = g3 at *
  obtain ⟨Q4, F4⟩ := Q3.u1 (a := 8 * k) (v := 1) (by omega) (by omega)
  obtain ⟨Q5, F5⟩ := Q4.u1 (a := 8 * k + 1) (v := b) (by omega) (by omega)
  obtain ⟨Q6, F6⟩ := Q5.u1 (a := 8 * k + 5) (v := 3) (by omega) (by omega)
  obtain ⟨Q7, F7⟩ := Q6.u1 (a := 8 * k + 6) (v := 0) (by omega) (by omega)
  have n40 : updN (updN (updN (updN (bdN (inN N g b l w) k e (botN b e M) (topN (b + l) e M)) (8 * k) 1) (8 * k + 1) b) (8 * k + 5) 3) (8 * k + 6) 0 1377 ≤ 40 := by
    rw [updN_o (by omega), updN_o (by omega), updN_o (by omega), updN_o (by omega), bdN_o (by omega) (by omega) (by omega), inN_o n32 hg (by omega)]
    exact okn.2.2.2.2.2.2.2.1
  obtain ⟨g8, e8, Q8, F8⟩ := Q7.nt n40 0 b l
  have T3 := Q3.1
  refine ⟨g8, ?_, Q8, (((F1.trans F2).trans (F3.trans F4)).trans ((F5.trans F6).trans F7)).trans F8⟩
  rw [s0]
  have fold : sI (sI (sI (sI (insH h (x + 107) (N 256) g) (x + 107 + 34) (257 + 3 * g) (nI b)) (x + 107 + 34) (257 + 3 * g + 1) (nI l)) (x + 107 + 34) (257 + 3 * g + 2) (nI w)) (x + 107 + 34) 256 (nI (N 256 + 1)) = g1 := hg1.symm
  generalize insH h (x + 107) (N 256) g = h0 at *
  simp (disch := omega) only [nm, bd_s, ko_K, ka_K, koK_t, kaK_t, kr_s, kn_s, kn_n, hK_sI, hR_sI, hK_sL, hR_sL, hI_sL, hL_sI, hL_sL, hI_sI, hN_sI, hN_sL, ch_G, ch_T, nb_0, nb_1, zb_G, d_T, d_F, d_eT, d_eF, b2i_t, b2i_f, tn_nI, fa_lit, fa_litL, m1_e, nI_add, pk_mul, pk_sub, nI_leI, nI_ltI, nI_eq, le_T, le_F, lt_T, lt_F, eq_T, eq_F, if_pos, if_neg, m1_le, m1_lt', m1_gt, m1_le', m1_eq, m1_qe, b2i_eq0, in_N, in_n, in_I, ↓reduceIte, Bool.true_eq_false, Bool.false_eq_true, reduceCtorEq, decide_eq_true_eq, decide_eq_false_iff_not, Nat.not_lt, Nat.not_le, not_true_eq_false, not_false_eq_true, true_and, and_true, and_self, false_and, and_false, true_or, or_true, false_or, or_false, f_X12_allocates_71, T0.k, T0.r47, T0.k47, g0, gm, fold, en, T2.k, la, T3.k, T3.r47, T3.k47, g57, e8]
end Al2
