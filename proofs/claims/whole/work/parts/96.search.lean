/-! the search for room: the class -/
def fgR (l s z c : Nat) : Int := if c = 40 then (l : Int) else if c = 41 then (s : Int) else (z : Int)
def pdN (cd : Nat → List Nat) (l : Nat) : Nat := match evL (fgR l 0 0) (fun _ v => v) (cd 1) [] with
  | [v] => if v < 0 then 0 else if 99 < v then 99 else v.toNat
  | _ => 0
def rkZ (cd : Nat → List Nat) (l s z : Nat) : Int := match evL (fgR l s z) (fun _ v => v) (cd 0) [] with
  | [v] => v
  | _ => (s : Int)
theorem pdN_le (cd : Nat → List Nat) (l : Nat) : pdN cd l ≤ 99 := by
  unfold pdN
  split
  · split
    · omega
    · split <;> omega
  · omega
theorem alC_0 {c : Nat} (h : alC 0 c = true) : 40 ≤ c ∧ c ≤ 42 := by
  unfold alC at h
  rw [if_pos rfl] at h
  exact of_decide_eq_true h
theorem alC_1 {c : Nat} (h : alC 1 c = true) : c = 40 := by
  unfold alC at h
  rw [if_neg (by omega), if_pos rfl] at h
  exact of_decide_eq_true h
theorem fgR_ok {l s z : Nat} (h1 : l ≤ 4096) (h2 : s ≤ 4096) (h3 : z ≤ 4096) (c : Nat) : OV false (fgR l s z c) := by
  unfold fgR
  refine ⟨?_, ?_, fun z => by cases z⟩
  · split
    · omega
    · split <;> omega
  · split
    · omega
    · split <;> omega
def KC (x b j : Nat) : Prop := x + 83 ≤ b ∧ b < x + 86
section Se
variable {h : aH} {x r tl : Nat} {tp : Nat → Nat} {rf : Nat → Int32} {ft fp : Int32} {sd : Nat} {M mem sh : Nat} {ns : Nat → List Nat} {kd : Nat → Nat} {cd : Nat → List Nat} {N : tyN} {sl : Nat → tyN} {nx c cr : Nat} {rn : Nat} {rw_ : Nat → Nat} {on_ : Nat} {ob : Nat → Nat}
theorem KC.wk {d : Nat} {f : Nat → Int32} : FX x (KC x) h (WK h x d f) := by
  refine ⟨rfl, fun _ _ _ => rfl, rfl, rfl, fun b j q => ?_, fun _ _ _ => rfl⟩
  unfold KC at q
  exact WK_o (by omega) (by omega)
theorem mB.kc {a : Nat} {h1 : aH} (ha : a = x + 92 ∨ a = x + 98) (B : mB h a M mem sh ns kd cd) (f : FX x (KC x) h h1) : mB h1 a M mem sh ns kd cd := by
  have gI := f.2.2.2.2.1
  obtain ⟨y1, y2, y3, y4, y5, y6⟩ := B
  refine ⟨(gI a 1 (by unfold KC; omega)).trans y1, (gI a 2 (by unfold KC; omega)).trans y2, (gI a 3 (by unfold KC; omega)).trans y3, fun s k z1 z2 z3 => (gI _ _ (by unfold KC; omega)).trans (y4 s k z1 z2 z3), fun s z1 z2 => (gI _ _ (by unfold KC; omega)).trans (y5 s z1 z2), fun w hw => ?_⟩
  obtain ⟨f, g1, g2, g3, g4⟩ := y6 w hw
  exact ⟨f, g1, (gI _ _ (by unfold KC; omega)).trans g2, (gI _ _ (by unfold KC; omega)).trans g3, fun i hi => (gI _ _ (by unfold KC; omega)).trans (g4 i hi)⟩
theorem emp {l : List Nat} (c : ¬ l = []) : l.isEmpty = false := by cases l with | nil => exact absurd rfl c | cons _ _ => rfl
theorem c_rank (S : XS h x) (okb : okB M mem sh ns kd cd) {a l s z : Nat} (ha : a = x + 92 ∨ a = x + 98) (A : MA h a) (B : mB h a M mem sh ns kd cd) (h1 : l ≤ 4096) (h2 : s ≤ 4096) (h3 : z ≤ 4096) : ∃ h1, f_X0_rank (x + 83) a (nI l) (nI s) (nI z) h = some (vI (rkZ cd l s z), h1) ∧ FX x (KC x) h h1 ∧ hR h1 = hR h ∧ hL h1 = hL h ∧ OV false (rkZ cd l s z) := by
  have ch := c_has A B (show 0 < 3 by omega)
  rcases okb.2.2.2.2.2.2.2 0 (by omega) with c1 | ty
  · rw [c1] at ch
    have ch : f_X4_hasFormula a (nI 0) h = some (nI 0, h) := ch
    have rk : rkZ cd l s z = (s : Int) := by unfold rkZ; rw [c1]; rfl
    refine ⟨h, ?_, FX.refl x _ h, rfl, rfl, by rw [rk]; exact ⟨by omega, by omega, fun z => by cases z⟩⟩
    rw [rk, ← vI_n]
    simp (disch := omega) only [nm, bd_s, ko_K, ka_K, koK_t, kaK_t, kr_s, kn_s, kn_n, hK_sI, hR_sI, hK_sL, hR_sL, hI_sL, hL_sI, hL_sL, hI_sI, hN_sI, hN_sL, ch_G, ch_T, nb_0, nb_1, zb_G, d_T, d_F, d_eT, d_eF, b2i_t, b2i_f, tn_nI, fa_lit, fa_litL, m1_e, nI_add, pk_mul, pk_sub, nI_leI, nI_ltI, nI_eq, le_T, le_F, lt_T, lt_F, eq_T, eq_F, if_pos, if_neg, m1_le, m1_lt', m1_gt, m1_le', m1_eq, m1_qe, b2i_eq0, in_N, in_n, in_I, ↓reduceIte, Bool.true_eq_false, Bool.false_eq_true, reduceCtorEq, decide_eq_true_eq, decide_eq_false_iff_not, Nat.not_lt, Nat.not_le, not_true_eq_false, not_false_eq_true, true_and, and_true, and_self, false_and, and_false, true_or, or_true, false_or, or_false, f_X0_rank, A.k, ch]
  · have c1 : ¬ cd 0 = [] := by intro z; rw [z] at ty; cases ty
    rw [emp c1] at ch
    have ch : f_X4_hasFormula a (nI 0) h = some (nI 1, h) := ch
    have S1 : XS (sI (sI (sI h (x + 84) 7 (nI l)) (x + 84) 8 (nI s)) (x + 84) 9 (nI z)) x := S.of rfl rfl
    have A1 : MA (sI (sI (sI h (x + 84) 7 (nI l)) (x + 84) 8 (nI s)) (x + 84) 9 (nI z)) a := A.of rfl rfl
    have fx : FX x (KC x) h (sI (sI (sI h (x + 84) 7 (nI l)) (x + 84) 8 (nI s)) (x + 84) 9 (nI z)) := ((FX.sI (by unfold KC; omega)).trans (FX.sI (by unfold KC; omega))).trans (FX.sI (by unfold KC; omega))
    have B1 := B.kc ha fx
    obtain ⟨d', f', v, r1, r2, r3⟩ := c_run (o1 := fun _ v => v) (fg := fgR l s z) S1 A1 ha B1 (show 0 < 3 by omega) ty (fun c _ _ => fgR_ok h1 h2 h3 c) ⟨rfl, rfl⟩ (fun c q _ _ => by
      have := alC_0 q
      rcases (show c = 40 ∨ c = 41 ∨ c = 42 by omega) with rfl | rfl | rfl
      · refine ⟨by decide, ?_⟩
        show hI (sI (sI (sI h (x + 84) 7 (nI l)) (x + 84) 8 (nI s)) (x + 84) 9 (nI z)) (x + 84) 7 = vI (l : Int)
        rw [hI_sI, if_neg (by omega), hI_sI, if_neg (by omega), hI_sI, if_pos ⟨rfl, rfl⟩, vI_n]
      · refine ⟨by decide, ?_⟩
        show hI (sI (sI (sI h (x + 84) 7 (nI l)) (x + 84) 8 (nI s)) (x + 84) 9 (nI z)) (x + 84) 8 = vI (s : Int)
        rw [hI_sI, if_neg (by omega), hI_sI, if_pos ⟨rfl, rfl⟩, vI_n]
      · refine ⟨by decide, ?_⟩
        show hI (sI (sI (sI h (x + 84) 7 (nI l)) (x + 84) 8 (nI s)) (x + 84) 9 (nI z)) (x + 84) 9 = vI (z : Int)
        rw [hI_sI, if_pos ⟨rfl, rfl⟩, vI_n])
    have rk : rkZ cd l s z = v := by unfold rkZ; rw [r2]
    refine ⟨_, ?_, fx.trans (KC.wk (d := d') (f := f')), rfl, rfl, by rw [rk]; exact r3⟩
    rw [rk]
    simp (disch := omega) only [nm, bd_s, ko_K, ka_K, koK_t, kaK_t, kr_s, kn_s, kn_n, hK_sI, hR_sI, hK_sL, hR_sL, hI_sL, hL_sI, hL_sL, hI_sI, hN_sI, hN_sL, ch_G, ch_T, nb_0, nb_1, zb_G, d_T, d_F, d_eT, d_eF, b2i_t, b2i_f, tn_nI, fa_lit, fa_litL, m1_e, nI_add, pk_mul, pk_sub, nI_leI, nI_ltI, nI_eq, le_T, le_F, lt_T, lt_F, eq_T, eq_F, if_pos, if_neg, m1_le, m1_lt', m1_gt, m1_le', m1_eq, m1_qe, b2i_eq0, in_N, in_n, in_I, ↓reduceIte, Bool.true_eq_false, Bool.false_eq_true, reduceCtorEq, decide_eq_true_eq, decide_eq_false_iff_not, Nat.not_lt, Nat.not_le, not_true_eq_false, not_false_eq_true, true_and, and_true, and_self, false_and, and_false, true_or, or_true, false_or, or_false, f_X0_rank, A.k, ch, S.k83, S.r83_1, S.k84, r1]
theorem c_pad (S : XS h x) (okb : okB M mem sh ns kd cd) {a l : Nat} (ha : a = x + 92 ∨ a = x + 98) (A : MA h a) (B : mB h a M mem sh ns kd cd) (h1 : l ≤ 4096) : ∃ h1, f_X0_padding (x + 83) a (nI l) h = some (nI (pdN cd l), h1) ∧ FX x (KC x) h h1 ∧ hR h1 = hR h ∧ hL h1 = hL h := by
  have ch := c_has A B (show 1 < 3 by omega)
  rcases okb.2.2.2.2.2.2.2 1 (by omega) with c1 | ty
  · rw [c1] at ch
    have ch : f_X4_hasFormula a (nI 1) h = some (nI 0, h) := ch
    have rk : pdN cd l = 0 := by unfold pdN; rw [c1]; rfl
    refine ⟨h, ?_, FX.refl x _ h, rfl, rfl⟩
    rw [rk]
    simp (disch := omega) only [nm, bd_s, ko_K, ka_K, koK_t, kaK_t, kr_s, kn_s, kn_n, hK_sI, hR_sI, hK_sL, hR_sL, hI_sL, hL_sI, hL_sL, hI_sI, hN_sI, hN_sL, ch_G, ch_T, nb_0, nb_1, zb_G, d_T, d_F, d_eT, d_eF, b2i_t, b2i_f, tn_nI, fa_lit, fa_litL, m1_e, nI_add, pk_mul, pk_sub, nI_leI, nI_ltI, nI_eq, le_T, le_F, lt_T, lt_F, eq_T, eq_F, if_pos, if_neg, m1_le, m1_lt', m1_gt, m1_le', m1_eq, m1_qe, b2i_eq0, in_N, in_n, in_I, ↓reduceIte, Bool.true_eq_false, Bool.false_eq_true, reduceCtorEq, decide_eq_true_eq, decide_eq_false_iff_not, Nat.not_lt, Nat.not_le, not_true_eq_false, not_false_eq_true, true_and, and_true, and_self, false_and, and_false, true_or, or_true, false_or, or_false, f_X0_padding, A.k, ch]
  · have c1 : ¬ cd 1 = [] := by intro z; rw [z] at ty; cases ty
    rw [emp c1] at ch
    have ch : f_X4_hasFormula a (nI 1) h = some (nI 1, h) := ch
    have S1 : XS (sI h (x + 84) 7 (nI l)) x := S.of rfl rfl
    have A1 : MA (sI h (x + 84) 7 (nI l)) a := A.of rfl rfl
    have fx : FX x (KC x) h (sI h (x + 84) 7 (nI l)) := FX.sI (by unfold KC; omega)
    have B1 := B.kc ha fx
    obtain ⟨d', f', v, r1, r2, r3⟩ := c_run (o1 := fun _ v => v) (fg := fgR l 0 0) S1 A1 ha B1 (show 1 < 3 by omega) ty (fun c _ _ => fgR_ok h1 (by omega) (by omega) c) ⟨rfl, rfl⟩ (fun c q _ _ => by
      have := alC_1 q
      subst this
      refine ⟨by decide, ?_⟩
      show hI (sI h (x + 84) 7 (nI l)) (x + 84) 7 = vI (l : Int)
      rw [hI_sI, if_pos ⟨rfl, rfl⟩, vI_n])
    have rk : pdN cd l = if v < 0 then 0 else if 99 < v then 99 else v.toNat := by unfold pdN; rw [r2]
    refine ⟨_, ?_, fx.trans (KC.wk (d := d') (f := f')), rfl, rfl⟩
    rw [rk]
    obtain ⟨v1, v2, -⟩ := r3
    have n99 : nI 99 = vI 99 := rfl
    have n0 : nI 0 = vI 0 := rfl
    have l1 : (vI v < nI 99) = (v < 99) := by rw [n99]; exact vI_lt (by omega) (by omega) (by omega) (by omega)
    have l2 : (nI 0 < vI v) = (0 < v) := by rw [n0]; exact vI_lt (by omega) (by omega) (by omega) (by omega)
    by_cases c2 : v < 0
    · rw [if_pos c2]
      have l1 := l1.trans (eq_true (by omega))
      have l2 := l2.trans (eq_false (by omega))
      simp (disch := omega) only [nm, bd_s, ko_K, ka_K, koK_t, kaK_t, kr_s, kn_s, kn_n, hK_sI, hR_sI, hK_sL, hR_sL, hI_sL, hL_sI, hL_sL, hI_sI, hN_sI, hN_sL, ch_G, ch_T, nb_0, nb_1, zb_G, d_T, d_F, d_eT, d_eF, b2i_t, b2i_f, tn_nI, fa_lit, fa_litL, m1_e, nI_add, pk_mul, pk_sub, nI_leI, nI_ltI, nI_eq, le_T, le_F, lt_T, lt_F, eq_T, eq_F, if_pos, if_neg, m1_le, m1_lt', m1_gt, m1_le', m1_eq, m1_qe, b2i_eq0, in_N, in_n, in_I, ↓reduceIte, Bool.true_eq_false, Bool.false_eq_true, reduceCtorEq, decide_eq_true_eq, decide_eq_false_iff_not, Nat.not_lt, Nat.not_le, not_true_eq_false, not_false_eq_true, true_and, and_true, and_self, false_and, and_false, true_or, or_true, false_or, or_false, f_X0_padding, A.k, ch, S.k83, S.r83_1, S.k84, r1, j_min, j_max, l1, l2]
    · rw [if_neg c2]
      by_cases c3 : 99 < v
      · rw [if_pos c3]
        have l1 := l1.trans (eq_false (by omega))
        simp (disch := omega) only [nm, bd_s, ko_K, ka_K, koK_t, kaK_t, kr_s, kn_s, kn_n, hK_sI, hR_sI, hK_sL, hR_sL, hI_sL, hL_sI, hL_sL, hI_sI, hN_sI, hN_sL, ch_G, ch_T, nb_0, nb_1, zb_G, d_T, d_F, d_eT, d_eF, b2i_t, b2i_f, tn_nI, fa_lit, fa_litL, m1_e, nI_add, pk_mul, pk_sub, nI_leI, nI_ltI, nI_eq, le_T, le_F, lt_T, lt_F, eq_T, eq_F, if_pos, if_neg, m1_le, m1_lt', m1_gt, m1_le', m1_eq, m1_qe, b2i_eq0, in_N, in_n, in_I, ↓reduceIte, Bool.true_eq_false, Bool.false_eq_true, reduceCtorEq, decide_eq_true_eq, decide_eq_false_iff_not, Nat.not_lt, Nat.not_le, not_true_eq_false, not_false_eq_true, true_and, and_true, and_self, false_and, and_false, true_or, or_true, false_or, or_false, f_X0_padding, A.k, ch, S.k83, S.r83_1, S.k84, r1, j_min, j_max, l1]
      · rw [if_neg c3]
        have ev : vI v = nI v.toNat := by rw [vI_n, Int.toNat_of_nonneg (by omega)]
        by_cases c4 : v = 99
        · subst c4
          have l1 := l1.trans (eq_false (by omega))
          simp (disch := omega) only [nm, bd_s, ko_K, ka_K, koK_t, kaK_t, kr_s, kn_s, kn_n, hK_sI, hR_sI, hK_sL, hR_sL, hI_sL, hL_sI, hL_sL, hI_sI, hN_sI, hN_sL, ch_G, ch_T, nb_0, nb_1, zb_G, d_T, d_F, d_eT, d_eF, b2i_t, b2i_f, tn_nI, fa_lit, fa_litL, m1_e, nI_add, pk_mul, pk_sub, nI_leI, nI_ltI, nI_eq, le_T, le_F, lt_T, lt_F, eq_T, eq_F, if_pos, if_neg, m1_le, m1_lt', m1_gt, m1_le', m1_eq, m1_qe, b2i_eq0, in_N, in_n, in_I, ↓reduceIte, Bool.true_eq_false, Bool.false_eq_true, reduceCtorEq, decide_eq_true_eq, decide_eq_false_iff_not, Nat.not_lt, Nat.not_le, not_true_eq_false, not_false_eq_true, true_and, and_true, and_self, false_and, and_false, true_or, or_true, false_or, or_false, f_X0_padding, A.k, ch, S.k83, S.r83_1, S.k84, r1, j_min, j_max, l1]
          rfl
        · have l1 := l1.trans (eq_true (by omega))
          by_cases c5 : v = 0
          · subst c5
            have l2 := l2.trans (eq_false (by omega))
            simp (disch := omega) only [nm, bd_s, ko_K, ka_K, koK_t, kaK_t, kr_s, kn_s, kn_n, hK_sI, hR_sI, hK_sL, hR_sL, hI_sL, hL_sI, hL_sL, hI_sI, hN_sI, hN_sL, ch_G, ch_T, nb_0, nb_1, zb_G, d_T, d_F, d_eT, d_eF, b2i_t, b2i_f, tn_nI, fa_lit, fa_litL, m1_e, nI_add, pk_mul, pk_sub, nI_leI, nI_ltI, nI_eq, le_T, le_F, lt_T, lt_F, eq_T, eq_F, if_pos, if_neg, m1_le, m1_lt', m1_gt, m1_le', m1_eq, m1_qe, b2i_eq0, in_N, in_n, in_I, ↓reduceIte, Bool.true_eq_false, Bool.false_eq_true, reduceCtorEq, decide_eq_true_eq, decide_eq_false_iff_not, Nat.not_lt, Nat.not_le, not_true_eq_false, not_false_eq_true, true_and, and_true, and_self, false_and, and_false, true_or, or_true, false_or, or_false, f_X0_padding, A.k, ch, S.k83, S.r83_1, S.k84, r1, j_min, j_max, l1, l2]
            rfl
          · have l2 := l2.trans (eq_true (by omega))
            simp (disch := omega) only [nm, bd_s, ko_K, ka_K, koK_t, kaK_t, kr_s, kn_s, kn_n, hK_sI, hR_sI, hK_sL, hR_sL, hI_sL, hL_sI, hL_sL, hI_sI, hN_sI, hN_sL, ch_G, ch_T, nb_0, nb_1, zb_G, d_T, d_F, d_eT, d_eF, b2i_t, b2i_f, tn_nI, fa_lit, fa_litL, m1_e, nI_add, pk_mul, pk_sub, nI_leI, nI_ltI, nI_eq, le_T, le_F, lt_T, lt_F, eq_T, eq_F, if_pos, if_neg, m1_le, m1_lt', m1_gt, m1_le', m1_eq, m1_qe, b2i_eq0, in_N, in_n, in_I, ↓reduceIte, Bool.true_eq_false, Bool.false_eq_true, reduceCtorEq, decide_eq_true_eq, decide_eq_false_iff_not, Nat.not_lt, Nat.not_le, not_true_eq_false, not_false_eq_true, true_and, and_true, and_self, false_and, and_false, true_or, or_true, false_or, or_false, f_X0_padding, A.k, ch, S.k83, S.r83_1, S.k84, r1, j_min, j_max, l1, l2]
            rw [ev]
/-- the best gap so far: its number, the place, the rank -/
abbrev tyS : Type := Option (Nat × Nat × Int)
def upS (g u : Nat) (rk : Int) (σ : tyS) : tyS := match σ with
  | none => some (g, u, rk)
  | some (g0, a0, k) => if k ≤ rk then some (g0, a0, k) else some (g, u, rk)
theorem upS_k {g u g0 a0 : Nat} {rk k : Int} (h : k ≤ rk) : upS g u rk (some (g0, a0, k)) = some (g0, a0, k) := if_pos h
theorem upS_r {g u g0 a0 : Nat} {rk k : Int} (h : ¬ k ≤ rk) : upS g u rk (some (g0, a0, k)) = some (g, u, rk) := if_neg h
def stS (n mem : Nat) (B L : Nat → Nat) (cd : Nat → List Nat) (e l : Nat) (g : Nat) (σ : tyS) : tyS := if upN (gst B L g) e + l ≤ gst B L g + szN n mem B L g then upS g (upN (gst B L g) e) (rkZ cd l (gst B L g) (szN n mem B L g)) σ else σ
def fS (f : Nat → tyS → tyS) : Nat → Nat → tyS → tyS
  | 0, _, σ => σ
  | j + 1, g, σ => fS f j (g + 1) (f g σ)
def rkS (σ : tyS) : Int := match σ with
  | none => 0
  | some (_, _, k) => k
def HS (h : aH) (x : Nat) (σ : tyS) : Prop := match σ with
  | none => hI h (x + 86) 0 = -nI 1
  | some (g, a, k) => hI h (x + 86) 0 = nI g ∧ hI h (x + 86) 1 = nI a ∧ g ≤ 32 ∧ a ≤ 4096 ∧ OV false k
end Se
