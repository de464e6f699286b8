/-! THE TEXTS: the reference at a token -/
theorem MS.mw {h : aH} {m : Nat} (T : MS h m) : ∀ i, i < 25 → hR h m (11 + i) = some (m + 3 + i) ∧ hK h (m + 3 + i) = some (.inr (.char, (WD i).length)) := by
  intro i hi
  rcases (show i = 0 ∨ i = 1 ∨ i = 2 ∨ i = 3 ∨ i = 4 ∨ i = 5 ∨ i = 6 ∨ i = 7 ∨ i = 8 ∨ i = 9 ∨ i = 10 ∨ i = 11 ∨ i = 12 ∨ i = 13 ∨ i = 14 ∨ i = 15 ∨ i = 16 ∨ i = 17 ∨ i = 18 ∨ i = 19 ∨ i = 20 ∨ i = 21 ∨ i = 22 ∨ i = 23 ∨ i = 24 by omega) with rfl | rfl | rfl | rfl | rfl | rfl | rfl | rfl | rfl | rfl | rfl | rfl | rfl | rfl | rfl | rfl | rfl | rfl | rfl | rfl | rfl | rfl | rfl | rfl | rfl
  · exact ⟨T.r11, T.k11⟩
  · exact ⟨T.r12, T.k12⟩
  · exact ⟨T.r13, T.k13⟩
  · exact ⟨T.r14, T.k14⟩
  · exact ⟨T.r15, T.k15⟩
  · exact ⟨T.r16, T.k16⟩
  · exact ⟨T.r17, T.k17⟩
  · exact ⟨T.r18, T.k18⟩
  · exact ⟨T.r19, T.k19⟩
  · exact ⟨T.r20, T.k20⟩
  · exact ⟨T.r21, T.k21⟩
  · exact ⟨T.r22, T.k22⟩
  · exact ⟨T.r23, T.k23⟩
  · exact ⟨T.r24, T.k24⟩
  · exact ⟨T.r25, T.k25⟩
  · exact ⟨T.r26, T.k26⟩
  · exact ⟨T.r27, T.k27⟩
  · exact ⟨T.r28, T.k28⟩
  · exact ⟨T.r29, T.k29⟩
  · exact ⟨T.r30, T.k30⟩
  · exact ⟨T.r31, T.k31⟩
  · exact ⟨T.r32, T.k32⟩
  · exact ⟨T.r33, T.k33⟩
  · exact ⟨T.r34, T.k34⟩
  · exact ⟨T.r35, T.k35⟩
theorem MS.aw {h : aH} {m : Nat} (T : MS h m) : ∀ i, i < 25 → hR h m (66 + i) = some (m + 39 + i) ∧ hK h (m + 39 + i) = some (.inr (.char, (WD (askW i)).length)) := by
  intro i hi
  rcases (show i = 0 ∨ i = 1 ∨ i = 2 ∨ i = 3 ∨ i = 4 ∨ i = 5 ∨ i = 6 ∨ i = 7 ∨ i = 8 ∨ i = 9 ∨ i = 10 ∨ i = 11 ∨ i = 12 ∨ i = 13 ∨ i = 14 ∨ i = 15 ∨ i = 16 ∨ i = 17 ∨ i = 18 ∨ i = 19 ∨ i = 20 ∨ i = 21 ∨ i = 22 ∨ i = 23 ∨ i = 24 by omega) with rfl | rfl | rfl | rfl | rfl | rfl | rfl | rfl | rfl | rfl | rfl | rfl | rfl | rfl | rfl | rfl | rfl | rfl | rfl | rfl | rfl | rfl | rfl | rfl | rfl
  · exact ⟨T.r66, T.k66⟩
  · exact ⟨T.r67, T.k67⟩
  · exact ⟨T.r68, T.k68⟩
  · exact ⟨T.r69, T.k69⟩
  · exact ⟨T.r70, T.k70⟩
  · exact ⟨T.r71, T.k71⟩
  · exact ⟨T.r72, T.k72⟩
  · exact ⟨T.r73, T.k73⟩
  · exact ⟨T.r74, T.k74⟩
  · exact ⟨T.r75, T.k75⟩
  · exact ⟨T.r76, T.k76⟩
  · exact ⟨T.r77, T.k77⟩
  · exact ⟨T.r78, T.k78⟩
  · exact ⟨T.r79, T.k79⟩
  · exact ⟨T.r80, T.k80⟩
  · exact ⟨T.r81, T.k81⟩
  · exact ⟨T.r82, T.k82⟩
  · exact ⟨T.r83, T.k83⟩
  · exact ⟨T.r84, T.k84⟩
  · exact ⟨T.r85, T.k85⟩
  · exact ⟨T.r86, T.k86⟩
  · exact ⟨T.r87, T.k87⟩
  · exact ⟨T.r88, T.k88⟩
  · exact ⟨T.r89, T.k89⟩
  · exact ⟨T.r90, T.k90⟩
/-- the reference's text -/
def MX (h : aH) (x : Nat) (tp : Nat → Nat) (n : Nat) : Prop := MS h (x + 107) ∧ (∀ j, j < 1600 → hI h (x + 107 + 1) j = nI (tp j)) ∧ mW h (x + 107) ∧ hI h (x + 107) 3 = nI n
/-- where the last word or number ended, against where a token begins -/
def ED (h : aH) (x p : Nat) (σ : tyT) : Prop := hI h (x + 107) 6 = -nI 1 ∧ (σ.2 = true ∧ hI h (x + 107) 4 = nI σ.1 ∨ σ.2 = false ∧ (hI h (x + 107) 4 = -nI 1 ∨ ∃ e, hI h (x + 107) 4 = nI e ∧ e ≤ p ∧ ¬ e = σ.1))
/-- the reference ahead of a token, no fault so far -/
def RT (h : aH) (x : Nat) (tp : Nat → Nat) (n : Nat) (σ : tyT) : Prop := MX h x tp n ∧ okS tp n σ ∧ hI h (x + 107) 5 = nI 0 ∧ ∃ p, hI h (x + 107) 2 = nI p ∧ p ≤ σ.1 ∧ sk tp n p = σ.1 ∧ ED h x p σ
/-- at the token -/
def RA (h : aH) (x : Nat) (tp : Nat → Nat) (n : Nat) (σ : tyT) : Prop := MX h x tp n ∧ okS tp n σ ∧ hI h (x + 107) 5 = nI 0 ∧ hI h (x + 107) 2 = nI σ.1 ∧ ED h x σ.1 σ
def QC (x b j : Nat) : Prop := b = x + 107 ∧ (j = 2 ∨ j = 4 ∨ j = 5 ∨ j = 6 ∨ j = 10 ∨ j = 92 ∨ j = 94 ∨ j = 95 ∨ j = 96) ∨ b = x + 107 + 64 ∨ b = x + 107 + 65
/-- what the reference's parser may change -/
def QX (x : Nat) (h h1 : aH) : Prop := hK h1 = hK h ∧ hR h1 = hR h ∧ hL h1 = hL h ∧ hN h1 = hN h ∧ hS h1 = hS h ∧ ∀ b j, ¬ QC x b j → hI h1 b j = hI h b j
theorem QX.refl {x : Nat} {h : aH} : QX x h h := ⟨rfl, rfl, rfl, rfl, rfl, fun _ _ _ => rfl⟩
theorem QX.trans {x : Nat} {h h1 h2 : aH} (p : QX x h h1) (q : QX x h1 h2) : QX x h h2 := ⟨q.1.trans p.1, q.2.1.trans p.2.1, q.2.2.1.trans p.2.2.1, q.2.2.2.1.trans p.2.2.2.1, q.2.2.2.2.1.trans p.2.2.2.2.1, fun b j z => (q.2.2.2.2.2 b j z).trans (p.2.2.2.2.2 b j z)⟩
theorem qx_s {x : Nat} {h : aH} {a i : Nat} {v : Int32} (hp : QC x a i) : QX x h (sI h a i v) := ⟨rfl, rfl, rfl, rfl, rfl, fun b j z => by rw [hI_sI, if_neg]; rintro ⟨rfl, rfl⟩; exact z hp⟩
section Rf
variable {h : aH} {x n : Nat} {tp : Nat → Nat} {σ : tyT}
theorem MX.fr {h1 : aH} (T : MX h x tp n) (e1 : hK h1 = hK h) (e2 : hR h1 = hR h) (e : ∀ b j, (x + 107 < b ∧ b < x + 107 + 64 ∨ b = x + 107 ∧ j = 3) → hI h1 b j = hI h b j) : MX h1 x tp n := ⟨T.1.of e1 e2, fun j hj => (e _ _ (by omega)).trans (T.2.1 j hj), T.2.2.1.fr (fun b j q => e b j (by omega)), (e _ _ (by omega)).trans T.2.2.2⟩
theorem MX.s (T : MX h x tp n) {i : Nat} (hi : ¬ i = 3) (v : Int32) : MX (sI h (x + 107) i v) x tp n := T.fr rfl rfl (fun b j q => by rw [hI_sI, if_neg (by omega)])
theorem MX.qx {h1 : aH} (T : MX h x tp n) (q : QX x h h1) : MX h1 x tp n := T.fr q.1 q.2.1 (fun b j z => q.2.2.2.2.2 b j (by unfold QC; omega))
/-- the byte here -/
def btT (tp : Nat → Nat) (n : Nat) (σ : tyT) : Int32 := if σ.1 < n then nI (tp σ.1) else -nI 1
theorem m_skip (tb : ∀ j, tp j ≤ 255) (hn : n ≤ 1600) : ∀ (d q k : Nat), n - q = d → q ≤ n → d < k → MX h x tp n → f_X12_look_0 k (x + 107) (sI h (x + 107) 2 (nI q)) = f_X12_look_52 (x + 107) (sI h (x + 107) 2 (nI (rn isB tp n q))) := by
  intro d
  induction d with
  | zero =>
    intro q k hd hq hk T
    obtain ⟨k, rfl⟩ : ∃ j, k = j + 1 := ⟨k - 1, by omega⟩
    have hq : q = n := by omega
    subst hq
    rw [rn_f (by omega)]
    have T1 := T.s (i := 2) (by omega) (nI q)
    have S1 := T1.1
    have l1 := T1.2.2.2
    have v2 : hI (sI h (x + 107) 2 (nI q)) (x + 107) 2 = nI q := by rw [hI_sI, if_pos ⟨rfl, rfl⟩]
    generalize sI h (x + 107) 2 (nI q) = g at *
    simp (disch := omega) only [nm, bd_s, ko_K, ka_K, koK_t, kaK_t, kr_s, kn_s, kn_n, hK_sI, hR_sI, hK_sL, hR_sL, hI_sL, hL_sI, hL_sL, hI_sI, hN_sI, hN_sL, ch_G, ch_T, nb_0, nb_1, zb_G, d_T, d_F, d_eT, d_eF, b2i_t, b2i_f, tn_nI, fa_lit, fa_litL, m1_e, nI_add, pk_mul, pk_sub, nI_leI, nI_ltI, nI_eq, le_T, le_F, lt_T, lt_F, eq_T, eq_F, if_pos, if_neg, m1_le, m1_lt', m1_gt, m1_le', m1_eq, m1_qe, b2i_eq0, in_N, in_n, in_I, ↓reduceIte, Bool.true_eq_false, Bool.false_eq_true, reduceCtorEq, decide_eq_true_eq, decide_eq_false_iff_not, Nat.not_lt, Nat.not_le, not_true_eq_false, not_false_eq_true, true_and, and_true, and_self, false_and, and_false, true_or, or_true, false_or, or_false, f_X12_look_0, b_X12_look_0, S1.k, l1, v2]
  | succ d ih =>
    intro q k hd hq hk T
    obtain ⟨k, rfl⟩ : ∃ j, k = j + 1 := ⟨k - 1, by omega⟩
    have T1 := T.s (i := 2) (by omega) (nI q)
    have S1 := T1.1
    have l1 := T1.2.2.2
    have v2 : hI (sI h (x + 107) 2 (nI q)) (x + 107) 2 = nI q := by rw [hI_sI, if_pos ⟨rfl, rfl⟩]
    have b := T1.2.1 q (by omega)
    have t := tb q
    by_cases c : isB (tp q) = true
    · rw [rn_t (by omega) c, ← ih (q + 1) k (by omega) (by omega) (by omega) T]
      have ss := sI_sI h (x + 107) 2 (nI q) (nI (q + 1))
      rw [← ss]
      generalize sI h (x + 107) 2 (nI q) = g at *
      unfold isB at c
      simp only [Bool.or_eq_true, decide_eq_true_eq] at c
      rcases c with c | c
      · rw [c] at b
        simp (disch := omega) only [nm, bd_s, ko_K, ka_K, koK_t, kaK_t, kr_s, kn_s, kn_n, hK_sI, hR_sI, hK_sL, hR_sL, hI_sL, hL_sI, hL_sL, hI_sI, hN_sI, hN_sL, ch_G, ch_T, nb_0, nb_1, zb_G, d_T, d_F, d_eT, d_eF, b2i_t, b2i_f, tn_nI, fa_lit, fa_litL, m1_e, nI_add, pk_mul, pk_sub, nI_leI, nI_ltI, nI_eq, le_T, le_F, lt_T, lt_F, eq_T, eq_F, if_pos, if_neg, m1_le, m1_lt', m1_gt, m1_le', m1_eq, m1_qe, b2i_eq0, in_N, in_n, in_I, ↓reduceIte, Bool.true_eq_false, Bool.false_eq_true, reduceCtorEq, decide_eq_true_eq, decide_eq_false_iff_not, Nat.not_lt, Nat.not_le, not_true_eq_false, not_false_eq_true, true_and, and_true, and_self, false_and, and_false, true_or, or_true, false_or, or_false, f_X12_look_0, b_X12_look_0, f_X12_look_39, ↓ko_t S1.k, l1, v2, ↓kr_t S1.r0, ↓ka_t S1.k0, b]
      · rw [c] at b
        simp (disch := omega) only [nm, bd_s, ko_K, ka_K, koK_t, kaK_t, kr_s, kn_s, kn_n, hK_sI, hR_sI, hK_sL, hR_sL, hI_sL, hL_sI, hL_sL, hI_sI, hN_sI, hN_sL, ch_G, ch_T, nb_0, nb_1, zb_G, d_T, d_F, d_eT, d_eF, b2i_t, b2i_f, tn_nI, fa_lit, fa_litL, m1_e, nI_add, pk_mul, pk_sub, nI_leI, nI_ltI, nI_eq, le_T, le_F, lt_T, lt_F, eq_T, eq_F, if_pos, if_neg, m1_le, m1_lt', m1_gt, m1_le', m1_eq, m1_qe, b2i_eq0, in_N, in_n, in_I, ↓reduceIte, Bool.true_eq_false, Bool.false_eq_true, reduceCtorEq, decide_eq_true_eq, decide_eq_false_iff_not, Nat.not_lt, Nat.not_le, not_true_eq_false, not_false_eq_true, true_and, and_true, and_self, false_and, and_false, true_or, or_true, false_or, or_false, f_X12_look_0, b_X12_look_0, f_X12_look_39, ↓ko_t S1.k, l1, v2, ↓kr_t S1.r0, ↓ka_t S1.k0, b]
    · rw [rn_f (fun z => c z.2)]
      unfold isB at c
      simp only [Bool.or_eq_true, decide_eq_true_eq] at c
      have c1 : ¬ tp q = 10 := fun z => c (Or.inl z)
      have c2 : ¬ tp q = 32 := fun z => c (Or.inr z)
      generalize sI h (x + 107) 2 (nI q) = g at *
      generalize tp q = V at *
      simp (disch := omega) only [nm, bd_s, ko_K, ka_K, koK_t, kaK_t, kr_s, kn_s, kn_n, hK_sI, hR_sI, hK_sL, hR_sL, hI_sL, hL_sI, hL_sL, hI_sI, hN_sI, hN_sL, ch_G, ch_T, nb_0, nb_1, zb_G, d_T, d_F, d_eT, d_eF, b2i_t, b2i_f, tn_nI, fa_lit, fa_litL, m1_e, nI_add, pk_mul, pk_sub, nI_leI, nI_ltI, nI_eq, le_T, le_F, lt_T, lt_F, eq_T, eq_F, if_pos, if_neg, m1_le, m1_lt', m1_gt, m1_le', m1_eq, m1_qe, b2i_eq0, in_N, in_n, in_I, ↓reduceIte, Bool.true_eq_false, Bool.false_eq_true, reduceCtorEq, decide_eq_true_eq, decide_eq_false_iff_not, Nat.not_lt, Nat.not_le, not_true_eq_false, not_false_eq_true, true_and, and_true, and_self, false_and, and_false, true_or, or_true, false_or, or_false, f_X12_look_0, b_X12_look_0, ↓ko_t S1.k, l1, v2, ↓kr_t S1.r0, ↓ka_t S1.k0, b]
theorem m_look (T : RT h x tp n σ) (tb : ∀ j, tp j ≤ 255) (hn : n ≤ 1600) : f_X12_look (x + 107) h = some (btT tp n σ, sI h (x + 107) 2 (nI σ.1)) ∧ RA (sI h (x + 107) 2 (nI σ.1)) x tp n σ := by
  obtain ⟨M, o, bad, p, e2, pl, sp, ed⟩ := T
  have sn := o.1
  refine ⟨?_, M.s (by omega) _, o, by rw [hI_sI, if_neg (by omega)]; exact bad, by rw [hI_sI, if_pos ⟨rfl, rfl⟩], ?_⟩
  · have c := m_skip (h := h) (x := x) tb hn (n - p) p FU rfl (by omega) (FU_gt (by omega)) M
    rw [show rn isB tp n p = σ.1 from sp, sI_id e2] at c
    show f_X12_look_0 FU (x + 107) h = _
    rw [c]
    have T1 := M.s (i := 2) (by omega) (nI σ.1)
    have S1 := T1.1
    have l1 := T1.2.2.2
    have v2 : hI (sI h (x + 107) 2 (nI σ.1)) (x + 107) 2 = nI σ.1 := by rw [hI_sI, if_pos ⟨rfl, rfl⟩]
    generalize sI h (x + 107) 2 (nI σ.1) = g at *
    unfold btT
    by_cases cc : σ.1 < n
    · rw [if_pos cc]
      have b := T1.2.1 σ.1 (by omega)
      simp (disch := omega) only [nm, bd_s, ko_K, ka_K, koK_t, kaK_t, kr_s, kn_s, kn_n, hK_sI, hR_sI, hK_sL, hR_sL, hI_sL, hL_sI, hL_sL, hI_sI, hN_sI, hN_sL, ch_G, ch_T, nb_0, nb_1, zb_G, d_T, d_F, d_eT, d_eF, b2i_t, b2i_f, tn_nI, fa_lit, fa_litL, m1_e, nI_add, pk_mul, pk_sub, nI_leI, nI_ltI, nI_eq, le_T, le_F, lt_T, lt_F, eq_T, eq_F, if_pos, if_neg, m1_le, m1_lt', m1_gt, m1_le', m1_eq, m1_qe, b2i_eq0, in_N, in_n, in_I, ↓reduceIte, Bool.true_eq_false, Bool.false_eq_true, reduceCtorEq, decide_eq_true_eq, decide_eq_false_iff_not, Nat.not_lt, Nat.not_le, not_true_eq_false, not_false_eq_true, true_and, and_true, and_self, false_and, and_false, true_or, or_true, false_or, or_false, f_X12_look_52, f_X12_look_76, S1.k, l1, v2, S1.r0, S1.k0, b]
    · rw [if_neg cc]
      simp (disch := omega) only [nm, bd_s, ko_K, ka_K, koK_t, kaK_t, kr_s, kn_s, kn_n, hK_sI, hR_sI, hK_sL, hR_sL, hI_sL, hL_sI, hL_sL, hI_sI, hN_sI, hN_sL, ch_G, ch_T, nb_0, nb_1, zb_G, d_T, d_F, d_eT, d_eF, b2i_t, b2i_f, tn_nI, fa_lit, fa_litL, m1_e, nI_add, pk_mul, pk_sub, nI_leI, nI_ltI, nI_eq, le_T, le_F, lt_T, lt_F, eq_T, eq_F, if_pos, if_neg, m1_le, m1_lt', m1_gt, m1_le', m1_eq, m1_qe, b2i_eq0, in_N, in_n, in_I, ↓reduceIte, Bool.true_eq_false, Bool.false_eq_true, reduceCtorEq, decide_eq_true_eq, decide_eq_false_iff_not, Nat.not_lt, Nat.not_le, not_true_eq_false, not_false_eq_true, true_and, and_true, and_self, false_and, and_false, true_or, or_true, false_or, or_false, f_X12_look_52, f_X12_look_76, S1.k, l1, v2]
  · refine ⟨by rw [hI_sI, if_neg (by omega)]; exact ed.1, ?_⟩
    rcases ed.2 with ⟨a1, a2⟩ | ⟨a1, a2⟩
    · exact Or.inl ⟨a1, by rw [hI_sI, if_neg (by omega)]; exact a2⟩
    · refine Or.inr ⟨a1, ?_⟩
      rcases a2 with a2 | ⟨e, b1, b2, b3⟩
      · exact Or.inl (by rw [hI_sI, if_neg (by omega)]; exact a2)
      · exact Or.inr ⟨e, by rw [hI_sI, if_neg (by omega)]; exact b1, by omega, b3⟩
theorem RA.rt (T : RA h x tp n σ) : RT h x tp n σ := ⟨T.1, T.2.1, T.2.2.1, σ.1, T.2.2.2.1, Nat.le_refl _, rn_f T.2.1.2, T.2.2.2.2⟩
theorem m_lookA (T : RA h x tp n σ) (tb : ∀ j, tp j ≤ 255) (hn : n ≤ 1600) : f_X12_look (x + 107) h = some (btT tp n σ, h) := by
  have := (m_look T.rt tb hn).1
  rw [sI_id T.2.2.2.1] at this
  exact this
end Rf
