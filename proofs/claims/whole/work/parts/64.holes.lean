/-! a whole row is set -/
def sA (h : aH) (a : Nat) (f : Nat → Int32) : aH := (h.1, fun b j => if b = a then f j else hI h b j, h.2.2)
theorem hI_sA (h : aH) (a : Nat) (f : Nat → Int32) (b j : Nat) : hI (sA h a f) b j = if b = a then f j else hI h b j := rfl
theorem hK_sA (h : aH) (a : Nat) (f : Nat → Int32) : hK (sA h a f) = hK h := rfl
theorem hR_sA (h : aH) (a : Nat) (f : Nat → Int32) : hR (sA h a f) = hR h := rfl
theorem hL_sA (h : aH) (a : Nat) (f : Nat → Int32) : hL (sA h a f) = hL h := rfl
theorem hN_sA (h : aH) (a : Nat) (f : Nat → Int32) : hN (sA h a f) = hN h := rfl
theorem hS_sA (h : aH) (a : Nat) (f : Nat → Int32) : hS (sA h a f) = hS h := rfl
theorem FM.sA {x : Nat} {h : aH} {a : Nat} {f : Nat → Int32} (h1 : x + 107 ≤ a) (h2 : a < x + 175) : FM x h (sA h a f) := ⟨rfl, rfl, rfl, rfl, fun b q j => ⟨by rw [hI_sA, if_neg (by omega)], rfl⟩⟩
theorem sA_id (h : aH) (a : Nat) : sA h a (hI h a) = h := by
  apply aH_ext
  · intro b; rfl
  · intro b j
    rw [hI_sA]
    by_cases c : b = a
    · rw [if_pos c, c]
    · rw [if_neg c]
  · intro b j; rfl
  · intro b j; rfl
  · rfl
  · rfl
/-! holes out of gaps -/
def szN (n mem : Nat) (B L : Nat → Nat) (g : Nat) : Nat := gen_ n mem B g - gst B L g
def hcN (n mem : Nat) (B L : Nat → Nat) (g : Nat) : Nat := ctN (fun g => decide (0 < szN n mem B L g)) g
def hoF (f0 : Nat → Int32) (n mem : Nat) (B L : Nat → Nat) : Nat → Nat → Int32
  | 0 => f0
  | g + 1 => fun j => if 0 < szN n mem B L g ∧ j = 2 * hcN n mem B L g then nI (gst B L g) else if 0 < szN n mem B L g ∧ j = 2 * hcN n mem B L g + 1 then nI (szN n mem B L g) else hoF f0 n mem B L g j
section Ho
variable {n mem : Nat} {B L : Nat → Nat} {f0 : Nat → Int32}
theorem hc_le (g : Nat) : hcN n mem B L g ≤ g := ctN_le _ g
theorem hc_s1 {g : Nat} (q : 0 < szN n mem B L g) : hcN n mem B L (g + 1) = hcN n mem B L g + 1 := by
  unfold hcN; rw [ctN_succ, if_pos (by simpa using q)]
theorem hc_s0 {g : Nat} (q : ¬ 0 < szN n mem B L g) : hcN n mem B L (g + 1) = hcN n mem B L g := by
  unfold hcN; rw [ctN_succ, if_neg (by simpa using q)]; rfl
theorem hc_mono {g G : Nat} (h : g ≤ G) : hcN n mem B L g ≤ hcN n mem B L G := by
  induction G with
  | zero => rw [show g = 0 by omega]; exact Nat.le_refl _
  | succ G ih =>
    by_cases c : g = G + 1
    · rw [c]; exact Nat.le_refl _
    · have := ih (by omega)
      by_cases q : 0 < szN n mem B L G
      · rw [hc_s1 q]; omega
      · rw [hc_s0 q]; exact this
theorem ho_get (G : Nat) : ∀ g, g < G → 0 < szN n mem B L g → hoF f0 n mem B L G (2 * hcN n mem B L g) = nI (gst B L g) ∧ hoF f0 n mem B L G (2 * hcN n mem B L g + 1) = nI (szN n mem B L g) := by
  induction G with
  | zero => intro g h; omega
  | succ G ih =>
    intro g hg q
    by_cases c : g = G
    · subst c
      simp only [hoF]
      rw [if_pos ⟨q, trivial⟩, if_neg (by omega), if_pos ⟨q, trivial⟩]
      exact ⟨rfl, rfl⟩
    · have h1 := hc_s1 q
      have h2 := hc_mono (n := n) (mem := mem) (B := B) (L := L) (show g + 1 ≤ G by omega)
      simp only [hoF]
      rw [if_neg (by omega), if_neg (by omega), if_neg (by omega), if_neg (by omega)]
      exact ih g (by omega) q
theorem hc_ex (G k : Nat) (h : k < hcN n mem B L G) : ∃ g, g < G ∧ 0 < szN n mem B L g ∧ hcN n mem B L g = k := by
  induction G with
  | zero => exact absurd h (Nat.not_lt_zero _)
  | succ G ih =>
    by_cases q : 0 < szN n mem B L G
    · rw [hc_s1 q] at h
      by_cases c : k = hcN n mem B L G
      · exact ⟨G, by omega, q, c.symm⟩
      · obtain ⟨g, g1, g2⟩ := ih (by omega)
        exact ⟨g, by omega, g2⟩
    · rw [hc_s0 q] at h
      obtain ⟨g, g1, g2⟩ := ih h
      exact ⟨g, by omega, g2⟩
theorem hc_un {g g' : Nat} (q : 0 < szN n mem B L g) (q' : 0 < szN n mem B L g') (e : hcN n mem B L g = hcN n mem B L g') : g = g' := by
  have h1 := hc_s1 q
  have h2 := hc_s1 q'
  by_cases c : g < g'
  · have := hc_mono (n := n) (mem := mem) (B := B) (L := L) (show g + 1 ≤ g' by omega); omega
  · by_cases c2 : g' < g
    · have := hc_mono (n := n) (mem := mem) (B := B) (L := L) (show g' + 1 ≤ g by omega); omega
    · omega
end Ho
def LH (h : aH) (m n mem : Nat) (B L : Nat → Nat) (g : Nat) : aH := sA (sI h m 55 (nI (hcN n mem B L g))) (m + 35) (hoF (hI h (m + 35)) n mem B L g)
section Lh
variable {h : aH} {m n mem : Nat} {B L : Nat → Nat}
theorem LH_0 : LH h m n mem B L 0 = sI h m 55 (nI 0) := by
  unfold LH
  rw [show hoF (hI h (m + 35)) n mem B L 0 = hI (sI h m 55 (nI (hcN n mem B L 0))) (m + 35) by funext j; rw [hI_sI, if_neg (by omega)]; rfl, sA_id]
  rfl
theorem LH_s0 {g : Nat} (q : ¬ 0 < szN n mem B L g) : LH h m n mem B L (g + 1) = LH h m n mem B L g := by
  unfold LH
  rw [hc_s0 q]
  congr 1
  funext j
  simp only [hoF]
  rw [if_neg (fun z => q z.1), if_neg (fun z => q z.1)]
theorem LH_s1 {g : Nat} (q : 0 < szN n mem B L g) : sI (sI (sI (LH h m n mem B L g) (m + 35) (2 * hcN n mem B L g) (nI (gst B L g))) (m + 35) (2 * hcN n mem B L g + 1) (nI (szN n mem B L g))) m 55 (nI (hcN n mem B L g + 1)) = LH h m n mem B L (g + 1) := by
  unfold LH
  rw [hc_s1 q]
  apply aH_ext
  · intro b; rfl
  · intro b j
    simp only [hI_sI, hI_sA, hoF]
    by_cases c1 : b = m
    · subst c1
      by_cases c2 : j = 55
      · subst c2; simp
      · rw [if_neg (by omega), if_neg (by omega), if_neg (by omega), if_neg (by omega), if_neg (by omega), if_neg (by omega), if_neg (by omega)]
    · rw [if_neg (by omega)]
      by_cases c3 : b = m + 35
      · subst c3
        by_cases c4 : j = 2 * hcN n mem B L g + 1
        · rw [if_pos ⟨rfl, c4⟩, if_pos rfl, if_neg (by omega), if_pos ⟨q, c4⟩]
        · rw [if_neg (by omega)]
          by_cases c5 : j = 2 * hcN n mem B L g
          · rw [if_pos ⟨rfl, c5⟩, if_pos rfl, if_pos ⟨q, c5⟩]
          · rw [if_neg (by omega), if_pos rfl, if_pos rfl, if_neg (by omega), if_neg (by omega)]
      · rw [if_neg (by omega), if_neg (by omega), if_neg c3, if_neg c3, if_neg (by omega), if_neg (by omega)]
  · intro b j; rfl
  · intro b j; rfl
  · rfl
  · rfl
theorem LH_o {g b j : Nat} (h1 : ¬ b = m + 35) (h2 : ¬ (b = m ∧ j = 55)) : hI (LH h m n mem B L g) b j = hI h b j := by
  unfold LH; rw [hI_sA, if_neg h1, hI_sI, if_neg h2]
theorem LH_55 {g : Nat} : hI (LH h m n mem B L g) m 55 = nI (hcN n mem B L g) := by
  unfold LH; rw [hI_sA, if_neg (by omega), hI_sI, if_pos ⟨rfl, rfl⟩]
theorem LH_35 {g j : Nat} : hI (LH h m n mem B L g) (m + 35) j = hoF (hI h (m + 35)) n mem B L g j := by
  unfold LH; rw [hI_sA, if_pos rfl]
theorem m_laysHoles (T : MS h m) (hn : hI h (m + 34) 256 = nI n) (n32 : n ≤ 32) (hB : ∀ i, i < n → hI h (m + 34) (257 + 3 * i) = nI (B i) ∧ hI h (m + 34) (257 + 3 * i + 1) = nI (L i) ∧ B i ≤ 4096 ∧ L i ≤ 4096) (hm : hI h (m + 28) 3 = nI mem) (m10 : mem ≤ 1024) : f_X12_laysHoles m h = some ((), LH h m n mem B L (n + 1)) := by
  have G : ∀ g, MS (LH h m n mem B L g) m := fun g => T.of rfl rfl
  have e1 : ∀ g, hI (LH h m n mem B L g) (m + 34) 256 = nI n := fun g => by rw [LH_o (by omega) (by omega)]; exact hn
  have e2 : ∀ g, hI (LH h m n mem B L g) (m + 28) 3 = nI mem := fun g => by rw [LH_o (by omega) (by omega)]; exact hm
  have gs : ∀ g, g ≤ n → gst B L g ≤ 8192 := by
    intro g hg
    unfold gst
    by_cases c : g = 0
    · rw [if_pos c]; omega
    · rw [if_neg c]; have := hB (g - 1) (by omega); omega
  have L1 := (loop_itr (fun k g (_ : Unit) => f_X12_laysHoles_10 k m (nI (gst B L (min g n))) (nI g) (LH h m n mem B L g)) (n + 1) (fun _ u => u) (fun _ => ((), LH h m n mem B L (n + 1))) (fun _ _ => True) (fun k g _ hg _ => ⟨?_, trivial⟩) (fun k _ _ => ?_) (n + 1) 0 () FU (by omega) trivial (FU_gt (by omega))).1
  · have e0 : f_X12_laysHoles m h = f_X12_laysHoles_10 FU m (nI (gst B L (min 0 n))) (nI 0) (LH h m n mem B L 0) := by
      rw [LH_0]
      simp (disch := omega) only [nm, bd_s, ko_K, ka_K, koK_t, kaK_t, kr_s, kn_s, kn_n, hK_sI, hR_sI, hK_sL, hR_sL, hI_sL, hL_sI, hL_sL, hI_sI, hN_sI, hN_sL, ch_G, ch_T, nb_0, nb_1, zb_G, d_T, d_F, d_eT, d_eF, b2i_t, b2i_f, tn_nI, fa_lit, fa_litL, m1_e, nI_add, pk_mul, pk_sub, nI_leI, nI_ltI, nI_eq, le_T, le_F, lt_T, lt_F, eq_T, eq_F, if_pos, if_neg, m1_le, m1_lt', m1_gt, m1_le', m1_eq, m1_qe, b2i_eq0, in_N, in_n, in_I, ↓reduceIte, Bool.true_eq_false, Bool.false_eq_true, reduceCtorEq, decide_eq_true_eq, decide_eq_false_iff_not, Nat.not_lt, Nat.not_le, not_true_eq_false, not_false_eq_true, true_and, and_true, and_self, false_and, and_false, true_or, or_true, false_or, or_false, f_X12_laysHoles, T.k, Nat.zero_min, gst]
    rw [e0]
    exact L1
  · have c0 := hc_le (n := n) (mem := mem) (B := B) (L := L) g
    have s1 := gs g (by omega)
    have e55 : hI (LH h m n mem B L g) m 55 = nI (hcN n mem B L g) := LH_55
    have hmn : min g n = g := by omega
    have key : ∀ to : Nat, to ≤ 4096 → to = gen_ n mem B g → f_X12_laysHoles_41 (f_X12_laysHoles_10 k) m (nI (gst B L g)) (nI g) (nI to) (LH h m n mem B L g) = f_X12_laysHoles_85 (f_X12_laysHoles_10 k) m (nI (gst B L g)) (nI g) (nI to) (LH h m n mem B L (g + 1)) := by
      intro to t1 t2
      have esz : szN n mem B L g = to - gst B L g := by unfold szN; rw [t2]
      by_cases q : 0 < szN n mem B L g
      · have := LH_s1 (h := h) (m := m) q
        rw [esz] at this
        simp (disch := omega) only [nm, bd_s, ko_K, ka_K, koK_t, kaK_t, kr_s, kn_s, kn_n, hK_sI, hR_sI, hK_sL, hR_sL, hI_sL, hL_sI, hL_sL, hI_sI, hN_sI, hN_sL, ch_G, ch_T, nb_0, nb_1, zb_G, d_T, d_F, d_eT, d_eF, b2i_t, b2i_f, tn_nI, fa_lit, fa_litL, m1_e, nI_add, pk_mul, pk_sub, nI_leI, nI_ltI, nI_eq, le_T, le_F, lt_T, lt_F, eq_T, eq_F, if_pos, if_neg, m1_le, m1_lt', m1_gt, m1_le', m1_eq, m1_qe, b2i_eq0, in_N, in_n, in_I, ↓reduceIte, Bool.true_eq_false, Bool.false_eq_true, reduceCtorEq, decide_eq_true_eq, decide_eq_false_iff_not, Nat.not_lt, Nat.not_le, not_true_eq_false, not_false_eq_true, true_and, and_true, and_self, false_and, and_false, true_or, or_true, false_or, or_false, f_X12_laysHoles_41, (G g).k, (G g).r56, (G g).k56, e55, this]
      · have := LH_s0 (h := h) (m := m) q
        simp (disch := omega) only [nm, bd_s, ko_K, ka_K, koK_t, kaK_t, kr_s, kn_s, kn_n, hK_sI, hR_sI, hK_sL, hR_sL, hI_sL, hL_sI, hL_sL, hI_sI, hN_sI, hN_sL, ch_G, ch_T, nb_0, nb_1, zb_G, d_T, d_F, d_eT, d_eF, b2i_t, b2i_f, tn_nI, fa_lit, fa_litL, m1_e, nI_add, pk_mul, pk_sub, nI_leI, nI_ltI, nI_eq, le_T, le_F, lt_T, lt_F, eq_T, eq_F, if_pos, if_neg, m1_le, m1_lt', m1_gt, m1_le', m1_eq, m1_qe, b2i_eq0, in_N, in_n, in_I, ↓reduceIte, Bool.true_eq_false, Bool.false_eq_true, reduceCtorEq, decide_eq_true_eq, decide_eq_false_iff_not, Nat.not_lt, Nat.not_le, not_true_eq_false, not_false_eq_true, true_and, and_true, and_self, false_and, and_false, true_or, or_true, false_or, or_false, f_X12_laysHoles_41, this]
    show f_X12_laysHoles_10 (k + 1) m (nI (gst B L (min g n))) (nI g) (LH h m n mem B L g) = f_X12_laysHoles_10 k m (nI (gst B L (min (g + 1) n))) (nI (g + 1)) (LH h m n mem B L (g + 1))
    rw [hmn]
    by_cases gn : g < n
    · obtain ⟨b1, b2, b3, b4⟩ := hB g gn
      have f1 : ∀ g', hI (LH h m n mem B L g') (m + 34) (257 + 3 * g) = nI (B g) := fun g' => by rw [LH_o (by omega) (by omega)]; exact b1
      have f2 : ∀ g', hI (LH h m n mem B L g') (m + 34) (257 + 3 * g + 1) = nI (L g) := fun g' => by rw [LH_o (by omega) (by omega)]; exact b2
      have k1 := key (B g) b3 (by unfold gen_; rw [if_pos gn])
      have hmn2 : min (g + 1) n = g + 1 := by omega
      have hg1 : gst B L (g + 1) = B g + L g := rfl
      simp (disch := omega) only [nm, bd_s, ko_K, ka_K, koK_t, kaK_t, kr_s, kn_s, kn_n, hK_sI, hR_sI, hK_sL, hR_sL, hI_sL, hL_sI, hL_sL, hI_sI, hN_sI, hN_sL, ch_G, ch_T, nb_0, nb_1, zb_G, d_T, d_F, d_eT, d_eF, b2i_t, b2i_f, tn_nI, fa_lit, fa_litL, m1_e, nI_add, pk_mul, pk_sub, nI_leI, nI_ltI, nI_eq, le_T, le_F, lt_T, lt_F, eq_T, eq_F, if_pos, if_neg, m1_le, m1_lt', m1_gt, m1_le', m1_eq, m1_qe, b2i_eq0, in_N, in_n, in_I, ↓reduceIte, Bool.true_eq_false, Bool.false_eq_true, reduceCtorEq, decide_eq_true_eq, decide_eq_false_iff_not, Nat.not_lt, Nat.not_le, not_true_eq_false, not_false_eq_true, true_and, and_true, and_self, false_and, and_false, true_or, or_true, false_or, or_false, f_X12_laysHoles_10, b_X12_laysHoles_10, f_X12_laysHoles_85, f_X12_laysHoles_102, f_X12_objectMany, f_X12_objectOf, (G g).k, (G g).r47, (G g).k47, (G (g + 1)).k, (G (g + 1)).r47, (G (g + 1)).k47, e1, f1, f2, k1, Nat.add_zero, hmn2, hg1]
    · have k1 := key mem (by omega) (by unfold gen_; rw [if_neg gn])
      have hmn2 : min (g + 1) n = g := by omega
      simp (disch := omega) only [nm, bd_s, ko_K, ka_K, koK_t, kaK_t, kr_s, kn_s, kn_n, hK_sI, hR_sI, hK_sL, hR_sL, hI_sL, hL_sI, hL_sL, hI_sI, hN_sI, hN_sL, ch_G, ch_T, nb_0, nb_1, zb_G, d_T, d_F, d_eT, d_eF, b2i_t, b2i_f, tn_nI, fa_lit, fa_litL, m1_e, nI_add, pk_mul, pk_sub, nI_leI, nI_ltI, nI_eq, le_T, le_F, lt_T, lt_F, eq_T, eq_F, if_pos, if_neg, m1_le, m1_lt', m1_gt, m1_le', m1_eq, m1_qe, b2i_eq0, in_N, in_n, in_I, ↓reduceIte, Bool.true_eq_false, Bool.false_eq_true, reduceCtorEq, decide_eq_true_eq, decide_eq_false_iff_not, Nat.not_lt, Nat.not_le, not_true_eq_false, not_false_eq_true, true_and, and_true, and_self, false_and, and_false, true_or, or_true, false_or, or_false, f_X12_laysHoles_10, b_X12_laysHoles_10, f_X12_laysHoles_85, f_X12_laysHoles_102, f_X12_objectMany, (G g).k, (G g).r37, (G g).k37, (G g).r47, (G g).k47, (G (g + 1)).k, (G (g + 1)).r47, (G (g + 1)).k47, e1, e2, k1, hmn2]
  · simp (disch := omega) only [nm, bd_s, ko_K, ka_K, koK_t, kaK_t, kr_s, kn_s, kn_n, hK_sI, hR_sI, hK_sL, hR_sL, hI_sL, hL_sI, hL_sL, hI_sI, hN_sI, hN_sL, ch_G, ch_T, nb_0, nb_1, zb_G, d_T, d_F, d_eT, d_eF, b2i_t, b2i_f, tn_nI, fa_lit, fa_litL, m1_e, nI_add, pk_mul, pk_sub, nI_leI, nI_ltI, nI_eq, le_T, le_F, lt_T, lt_F, eq_T, eq_F, if_pos, if_neg, m1_le, m1_lt', m1_gt, m1_le', m1_eq, m1_qe, b2i_eq0, in_N, in_n, in_I, ↓reduceIte, Bool.true_eq_false, Bool.false_eq_true, reduceCtorEq, decide_eq_true_eq, decide_eq_false_iff_not, Nat.not_lt, Nat.not_le, not_true_eq_false, not_false_eq_true, true_and, and_true, and_self, false_and, and_false, true_or, or_true, false_or, or_false, f_X12_laysHoles_10, b_X12_laysHoles_10, f_X12_objectMany, (G (n + 1)).k, (G (n + 1)).r47, (G (n + 1)).k47, e1]
end Lh
/-! sums, counts as the loops tell them -/
theorem itr_sum (f : Nat → Nat) : ∀ (n i c : Nat), itr (fun j (acc : Int32) => acc + nI (f j)) n i (nI c) = nI (c + fb_sm (fun k => f (i + k)) n) := by
  intro n
  induction n with
  | zero => intro i c; rfl
  | succ n ih =>
    intro i c
    have h1 := fb_sm_split (fun k => f (i + k)) 1 n
    rw [Nat.add_comm 1 n] at h1
    rw [h1]
    have h2 : (fun k => f (i + (1 + k))) = fun k => f (i + 1 + k) := by funext k; rw [Nat.add_assoc]
    rw [h2]
    simp only [itr]
    rw [nI_add, ih]
    congr 1
    have : fb_sm (fun k => f (i + k)) 1 = f i := by simp [fb_sm]
    omega
def mxN (f : Nat → Nat) : Nat → Nat
  | 0 => 0
  | n + 1 => max (mxN f n) (f n)
theorem mxN_le {f : Nat → Nat} {c : Nat} : ∀ n, (∀ k, k < n → f k ≤ c) → mxN f n ≤ c
  | 0, _ => Nat.zero_le _
  | n + 1, h => Nat.max_le.mpr ⟨mxN_le n (fun k hk => h k (by omega)), h n (by omega)⟩
