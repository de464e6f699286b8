/-! chance: draws -/
def dN (sd : Nat) : Nat := (1103515245 * sd + 12345) % 2147483648
theorem dN_lt (sd : Nat) : dN sd < 2 ^ 31 := Nat.mod_lt _ (by omega)
theorem lN_aff (sd : Nat) : (1103515245 : Int64) * lN sd + 12345 = lN (1103515245 * sd + 12345) := by
  rw [show (1103515245 : Int64) = vL 1103515245 by decide, show (12345 : Int64) = vL 12345 by decide, vL_n, vL_n, vL_mul, vL_add]
  congr 1
theorem lN_msk (a : Nat) (h : a < 2 ^ 63) : lN a &&& 2147483647 = lN (a % 2147483648) := by
  apply Int64.toBitVec_inj.mp
  apply BitVec.eq_of_toNat_eq
  rw [Int64.toBitVec_and, BitVec.toNat_and, lN_nat (by omega), lN_nat (by omega)]
  show a &&& (2 ^ 31 - 1) = a % 2 ^ 31
  exact Nat.and_two_pow_sub_one_eq_mod a 31
theorem lN_div {a b : Nat} (ha : a < 2 ^ 63) (hb : b < 2 ^ 63) (b0 : 0 < b) : lN a / lN b = lN (a / b) := by
  have q : a / b ≤ a := Nat.div_le_self a b
  obtain ⟨d, hd⟩ : ∃ d, d = a / b := ⟨_, rfl⟩
  rw [← hd] at q ⊢
  rw [vL_n, vL_n, vL_n]
  apply Int64.toInt_inj.mp
  rw [Int64.toInt_div_of_ne_left _ _ (by intro q; have := congrArg Int64.toInt q; rw [vL_t (by omega) (by omega), show Int64.minValue.toInt = -9223372036854775808 by decide] at this; omega), vL_t (by omega) (by omega), vL_t (by omega) (by omega), vL_t (by omega) (by omega)]
  rw [Int.tdiv_eq_ediv_of_nonneg (by omega), hd]
  rfl
theorem lN_rem {a b : Nat} (ha : a < 2 ^ 63) (hb : b < 2 ^ 63) (b0 : 0 < b) : lN a - lN a / lN b * lN b = lN (a % b) := by
  rw [lN_div ha hb b0, vL_n, vL_n, vL_n, vL_n, vL_mul, vL_sub]
  congr 1
  have := Nat.div_add_mod a b
  rw [Nat.mul_comm] at this
  have e : ((a / b : Nat) : Int) * (b : Int) = ((a / b * b : Nat) : Int) := by simp
  rw [e]
  omega
theorem lN_i3 {a : Nat} (h : a < 2 ^ 31) : (lN a).toInt32 = nI a := by rw [vL_n, vL_i (by omega) (by omega), vI_n]
section Ch
variable {h : aH} {x r tl : Nat} {tp : Nat → Nat} {rf : Nat → Int32} {ft fp : Int32} {sd : Nat} {M mem sh : Nat} {ns : Nat → List Nat} {kd : Nat → Nat} {cd : Nat → List Nat} {N : tyN} {sl : Nat → tyN} {nx c cr : Nat} {rn : Nat} {rw_ : Nat → Nat} {on_ : Nat} {ob : Nat → Nat}
theorem c_draw (C : CX h x (r, tl, tp, rf, ft, fp, sd) (M, mem, sh, ns, kd, cd) N (sl, nx, c, cr) (rn, rw_) (on_, ob)) (hs : sd < 2 ^ 31) {m : Nat} (m1 : 0 < m) (m2 : m ≤ 100) : f_X11_draw x (nI m) h = some (nI (dN sd / 64 % m), sL h x 16 (lN (dN sd))) ∧ CX (sL h x 16 (lN (dN sd))) x (r, tl, tp, rf, ft, fp, dN sd) (M, mem, sh, ns, kd, cd) N (sl, nx, c, cr) (rn, rw_) (on_, ob) ∧ FC x h (sL h x 16 (lN (dN sd))) ∧ ∀ j, hI (sL h x 16 (lN (dN sd))) (x + 86) j = hI h (x + 86) j := by
  refine ⟨?_, ?_, fun b b1 b2 => ⟨rfl, fun j => ⟨rfl, by rw [hL_sL, if_neg (by omega)], rfl⟩⟩, fun _ => rfl⟩
  · have S := C.1
    have e0 : hL h x 16 = lN sd := C.2.1.2.2.2.2.2.2
    have e1 : (1103515245 * hL h x 16 + 12345) &&& (2147483647 : Int64) = lN (dN sd) := by rw [e0, lN_aff, lN_msk _ (by omega)]; rfl
    have d1 := dN_lt sd
    have e2 : lN (dN sd) >>> ((6 : Int32).toInt64 &&& 63) = lN (dN sd / 64) := pf_shr (d := 6) (by decide) (by omega)
    have dm : dN sd / 64 % m < m := Nat.mod_lt _ m1
    have e3 : lN (dN sd / 64) - lN (dN sd / 64) / (nI m).toInt64 * (nI m).toInt64 = lN (dN sd / 64 % m) := by rw [nI_l (by omega), lN_rem (by omega) (by omega) m1]
    have h1 : ¬ nI m ≤ 0 := nI_nle (by omega) (by omega)
    have n0 : ¬ (nI m).toInt64 = 0 := by rw [nI_l (by omega), show (0 : Int64) = lN 0 by decide, vL_n, vL_n, vL_eq (by omega) (by omega) (by omega) (by omega)]; omega
    have e4 : hL (sL h x 16 (lN (dN sd))) x 16 = lN (dN sd) := by rw [hL_sL, if_pos ⟨rfl, rfl⟩]
    simp only [f_X11_draw, f_X11_draw_39, ko_t S.k0, if_neg h1, nm, e1, e4, chk_t n0, e2, e3, lN_i3 (show dN sd / 64 % m < 2 ^ 31 by omega)]
  · refine C.upA rfl rfl rfl rfl (fun b j q => rfl) rfl ?_
    obtain ⟨a1, a2, a3, a4, a5, a6, a7⟩ := C.2.1
    exact ⟨a1, a2, a3, a4, a5, a6, by rw [hL_sL, if_pos ⟨rfl, rfl⟩]⟩
theorem m_draw (Q : CM h (x + 107) (r, tl, tp, rf, ft, fp, sd) (M, mem, sh, ns, kd, cd) N (sl, nx, c, cr) (rn, rw_) (on_, ob)) (hs : sd < 2 ^ 31) {m : Nat} (m1 : 0 < m) (m2 : m ≤ 100) : f_X12_drawOf (x + 107) (nI m) h = some (nI (dN sd / 64 % m), sL h (x + 107) 65 (lN (dN sd))) ∧ CM (sL h (x + 107) 65 (lN (dN sd))) (x + 107) (r, tl, tp, rf, ft, fp, dN sd) (M, mem, sh, ns, kd, cd) N (sl, nx, c, cr) (rn, rw_) (on_, ob) ∧ FM x h (sL h (x + 107) 65 (lN (dN sd))) := by
  refine ⟨?_, ?_, FM.sL (by omega) (by omega)⟩
  · have T := Q.1
    have e0 : hL h (x + 107) 65 = lN sd := Q.2.1.2.2.2.2.2.2
    have e1 : (1103515245 * hL h (x + 107) 65 + 12345) - (1103515245 * hL h (x + 107) 65 + 12345) / (2147483648 : Int64) * 2147483648 = lN (dN sd) := by rw [e0, lN_aff, show (2147483648 : Int64) = lN 2147483648 by decide, lN_rem (by omega) (by omega) (by omega)]; rfl
    have d1 := dN_lt sd
    have e2 : lN (dN sd) / (64 : Int64) = lN (dN sd / 64) := by rw [show (64 : Int64) = lN 64 by decide, lN_div (by omega) (by omega) (by omega)]
    have dm : dN sd / 64 % m < m := Nat.mod_lt _ m1
    have e3 : lN (dN sd / 64) - lN (dN sd / 64) / (nI m).toInt64 * (nI m).toInt64 = lN (dN sd / 64 % m) := by rw [nI_l (by omega), lN_rem (by omega) (by omega) m1]
    have n0 : ¬ (nI m).toInt64 = 0 := by rw [nI_l (by omega), show (0 : Int64) = lN 0 by decide, vL_n, vL_n, vL_eq (by omega) (by omega) (by omega) (by omega)]; omega
    have e4 : hL (sL h (x + 107) 65 (lN (dN sd))) (x + 107) 65 = lN (dN sd) := by rw [hL_sL, if_pos ⟨rfl, rfl⟩]
    simp only [f_X12_drawOf, ko_t T.k, nm, e1, e4, chk_t n0, e2, e3, lN_i3 (show dN sd / 64 % m < 2 ^ 31 by omega)]
  · refine Q.upA rfl rfl (fun b j q => rfl) (fun j _ => by rw [hL_sL, if_neg (by omega)]) ?_
    obtain ⟨a1, a2, a3, a4, a5, a6, a7⟩ := Q.2.1
    exact ⟨a1, a2, a3, a4, a5, a6, by rw [hL_sL, if_pos ⟨rfl, rfl⟩]⟩
/-- one draw's act -/
def acB (M mem : Nat) (cd : Nat → List Nat) (N : tyN) (sd : Nat) : Bool × tyN × Nat :=
  if dN sd / 64 % 3 = 2 then (match obN M N (dN (dN sd) / 64 % 15) with
    | none => (false, N, dN (dN sd))
    | some i => (true, frN M N i, dN (dN sd)))
  else (match seS M mem cd N (dN (dN (dN sd)) / 64 % 16 + 1) with
    | none => (false, N, dN (dN (dN sd)))
    | some s => (true, alN M N (dN (dN sd) / 64 % 15) s.1 s.2.1 (lnS M cd (dN (dN (dN sd)) / 64 % 16 + 1)) (dN (dN (dN sd)) / 64 % 16 + 1), dN (dN (dN sd))))
theorem acB_f {i : Nat} (h : dN sd / 64 % 3 = 2) (q : obN M N (dN (dN sd) / 64 % 15) = some i) : acB M mem cd N sd = (true, frN M N i, dN (dN sd)) := by unfold acB; rw [if_pos h, q]
theorem acB_n (h : dN sd / 64 % 3 = 2) (q : obN M N (dN (dN sd) / 64 % 15) = none) : acB M mem cd N sd = (false, N, dN (dN sd)) := by unfold acB; rw [if_pos h, q]
theorem acB_a {g b : Nat} {k : Int} (h : ¬ dN sd / 64 % 3 = 2) (q : seS M mem cd N (dN (dN (dN sd)) / 64 % 16 + 1) = some (g, b, k)) : acB M mem cd N sd = (true, alN M N (dN (dN sd) / 64 % 15) g b (lnS M cd (dN (dN (dN sd)) / 64 % 16 + 1)) (dN (dN (dN sd)) / 64 % 16 + 1), dN (dN (dN sd))) := by unfold acB; rw [if_neg h, q]
theorem acB_z (h : ¬ dN sd / 64 % 3 = 2) (q : seS M mem cd N (dN (dN (dN sd)) / 64 % 16 + 1) = none) : acB M mem cd N sd = (false, N, dN (dN (dN sd))) := by unfold acB; rw [if_neg h, q]
theorem Ok.sds (O : Ok (r, tl, tp, rf, ft, fp, sd) (M, mem, sh, ns, kd, cd) N (sl, nx, c, cr) (rn, rw_) (on_, ob)) : sd < 2 ^ 31 := O.1.2.2
theorem Ok.up (O : Ok (r, tl, tp, rf, ft, fp, sd) (M, mem, sh, ns, kd, cd) N (sl, nx, c, cr) (rn, rw_) (on_, ob)) (hr : r = 1) {N' : tyN} {sd' : Nat} (okn : okN M mem sh N') (hs : sd' < 2 ^ 31) : Ok (r, tl, tp, rf, ft, fp, sd') (M, mem, sh, ns, kd, cd) N' (sl, nx, c, cr) (rn, rw_) (on_, ob) :=
  ⟨⟨O.1.1, O.1.2.1, hs⟩, O.2.1, O.2.2.1, Or.inr ⟨hr, O.okb hr, okn, (O.cs.resolve_left (fun q => by omega)).2.2.2⟩⟩
theorem ac_ok (O : Ok (r, tl, tp, rf, ft, fp, sd) (M, mem, sh, ns, kd, cd) N (sl, nx, c, cr) (rn, rw_) (on_, ob)) (hr : r = 1) : okN M mem sh (acB M mem cd N sd).2.1 ∧ (acB M mem cd N sd).2.2 < 2 ^ 31 := by
  have okn := O.okn hr
  obtain ⟨h4, h8, -, mm, -⟩ := O.okb hr
  by_cases c3 : dN sd / 64 % 3 = 2
  · cases q : obN M N (dN (dN sd) / 64 % 15) with
    | none => rw [acB_n c3 q]; exact ⟨okn, dN_lt _⟩
    | some i => rw [acB_f c3 q]; exact ⟨okn.fr h8 mm (obN_lt q), dN_lt _⟩
  · cases q : seS M mem cd N (dN (dN (dN sd)) / 64 % 16 + 1) with
    | none => rw [acB_z c3 q]; exact ⟨okn, dN_lt _⟩
    | some s =>
      obtain ⟨g, b, k⟩ := s
      rw [acB_a c3 q]
      obtain ⟨n32, hg, b1, b2⟩ := se_ok okn q
      exact ⟨okn.al h4 h8 mm (by omega) n32 hg b1 b2 (by omega) se_w, dN_lt _⟩
theorem c_act (C : CX h x (r, tl, tp, rf, ft, fp, sd) (M, mem, sh, ns, kd, cd) N (sl, nx, c, cr) (rn, rw_) (on_, ob)) (O : Ok (r, tl, tp, rf, ft, fp, sd) (M, mem, sh, ns, kd, cd) N (sl, nx, c, cr) (rn, rw_) (on_, ob)) (hr : r = 1) : ∃ h1, f_X11_actBySeed x h = some (b2i (acB M mem cd N sd).1, h1) ∧ CX h1 x (r, tl, tp, rf, ft, fp, (acB M mem cd N sd).2.2) (M, mem, sh, ns, kd, cd) (acB M mem cd N sd).2.1 (sl, nx, c, cr) (rn, rw_) (on_, ob) ∧ FC x h h1 := by
  have okn := O.okn hr
  obtain ⟨h4, h8, -, mm, -⟩ := O.okb hr
  have S := C.1
  obtain ⟨d1, C1, F1, -⟩ := c_draw C O.sds (m := 3) (by omega) (by omega)
  have S1 := C1.1
  obtain ⟨d2, C2, F2, -⟩ := c_draw C1 (dN_lt _) (m := 15) (by omega) (by omega)
  have S2 := C2.1
  have W2 := S2.now
  generalize sL h x 16 (lN (dN sd)) = g1 at *
  generalize sL g1 x 16 (lN (dN (dN sd))) = g2 at *
  by_cases c3 : dN sd / 64 % 3 = 2
  · have ow := c_objectOf C2 okn hr h4 h8 (k := dN (dN sd) / 64 % 15) (by omega)
    rw [c3] at d1
    cases q : obN M N (dN (dN sd) / 64 % 15) with
    | none =>
      rw [acB_n c3 q]
      rw [q] at ow
      have ow : f_X11_objectOf x (nI (dN (dN sd) / 64 % 15)) g2 = some (-nI 1, g2) := ow
      refine ⟨g2, ?_, C2, F1.trans F2⟩
      rw [b2i_f]
      simp (disch := omega) only [nm, bd_s, ko_K, ka_K, koK_t, kaK_t, kr_s, kn_s, kn_n, hK_sI, hR_sI, hK_sL, hR_sL, hI_sL, hL_sI, hL_sL, hI_sI, hN_sI, hN_sL, ch_G, ch_T, nb_0, nb_1, zb_G, d_T, d_F, d_eT, d_eF, b2i_t, b2i_f, tn_nI, fa_lit, fa_litL, m1_e, nI_add, pk_mul, pk_sub, nI_leI, nI_ltI, nI_eq, le_T, le_F, lt_T, lt_F, eq_T, eq_F, if_pos, if_neg, m1_le, m1_lt', m1_gt, m1_le', m1_eq, m1_qe, b2i_eq0, in_N, in_n, in_I, ↓reduceIte, Bool.true_eq_false, Bool.false_eq_true, reduceCtorEq, decide_eq_true_eq, decide_eq_false_iff_not, Nat.not_lt, Nat.not_le, not_true_eq_false, not_false_eq_true, true_and, and_true, and_self, false_and, and_false, true_or, or_true, false_or, or_false, f_X11_actBySeed_62, f_X11_actBySeed_52, f_X11_actBySeed_97, f_X11_actBySeed_14, f_X11_actBySeed, S.k0, d1, S1.k0, d2, S2.k0, ow]
    | some i =>
      rw [acB_f c3 q]
      rw [q] at ow
      have ow : f_X11_objectOf x (nI (dN (dN sd) / 64 % 15)) g2 = some (nI i, g2) := ow
      have n32 := okn.2.2.2.2.1
      have hi := obN_lt q
      obtain ⟨a, ha, h9, A, B⟩ := C2.run hr
      have b2 : hI g2 a 2 = nI M := B.2.1
      obtain ⟨g3, e3, C3, F3⟩ := c_remove C2 okn h4 h8 mm hi
      refine ⟨g3, ?_, C3, (F1.trans F2).trans F3⟩
      rw [b2i_t]
      simp (disch := omega) only [nm, bd_s, ko_K, ka_K, koK_t, kaK_t, kr_s, kn_s, kn_n, hK_sI, hR_sI, hK_sL, hR_sL, hI_sL, hL_sI, hL_sL, hI_sI, hN_sI, hN_sL, ch_G, ch_T, nb_0, nb_1, zb_G, d_T, d_F, d_eT, d_eF, b2i_t, b2i_f, tn_nI, fa_lit, fa_litL, m1_e, nI_add, pk_mul, pk_sub, nI_leI, nI_ltI, nI_eq, le_T, le_F, lt_T, lt_F, eq_T, eq_F, if_pos, if_neg, m1_le, m1_lt', m1_gt, m1_le', m1_eq, m1_qe, b2i_eq0, in_N, in_n, in_I, ↓reduceIte, Bool.true_eq_false, Bool.false_eq_true, reduceCtorEq, decide_eq_true_eq, decide_eq_false_iff_not, Nat.not_lt, Nat.not_le, not_true_eq_false, not_false_eq_true, true_and, and_true, and_self, false_and, and_false, true_or, or_true, false_or, or_false, f_X11_actBySeed_62, f_X11_actBySeed_52, f_X11_actBySeed_97, f_X11_actBySeed_14, f_X11_actBySeed, S.k0, d1, S1.k0, d2, S2.k0, S2.r0_2, W2.k, ow, h9, A.k, b2, e3]
  · obtain ⟨d3, C3, F3, -⟩ := c_draw C2 (dN_lt _) (m := 16) (by omega) (by omega)
    have S3 := C3.1
    generalize sL g2 x 16 (lN (dN (dN (dN sd)))) = g3 at *
    have O3 := O.up hr okn (dN_lt (dN (dN sd)))
    obtain ⟨a, ha, h9, A, B⟩ := C3.run hr
    have d16 : dN (dN (dN sd)) / 64 % 16 < 16 := Nat.mod_lt _ (by omega)
    have dk : dN (dN sd) / 64 % 15 < 15 := Nat.mod_lt _ (by omega)
    have dm : dN sd / 64 % 3 < 3 := Nat.mod_lt _ (by omega)
    obtain ⟨g4, i1, i2, i3, i4, i5, i6⟩ := c_search C3 O3 hr (a := a) (w := dN (dN (dN sd)) / 64 % 16 + 1) h9 (by omega) (by omega)
    have S4 := i2.1
    cases q : seS M mem cd N (dN (dN (dN sd)) / 64 % 16 + 1) with
    | none =>
      rw [acB_z c3 q]
      rw [q] at i1
      have i1 : f_X1_search (x + 86) a (nI (dN (dN (dN sd)) / 64 % 16 + 1)) g3 = some (nI 0, g4) := i1
      refine ⟨g4, ?_, i2, (F1.trans F2).trans (F3.trans i3)⟩
      rw [b2i_f]
      generalize dN (dN (dN sd)) / 64 % 16 = t at *
      generalize dN (dN sd) / 64 % 15 = k at *
      generalize dN sd / 64 % 3 = u at *
      simp (disch := omega) only [nm, bd_s, ko_K, ka_K, koK_t, kaK_t, kr_s, kn_s, kn_n, hK_sI, hR_sI, hK_sL, hR_sL, hI_sL, hL_sI, hL_sL, hI_sI, hN_sI, hN_sL, ch_G, ch_T, nb_0, nb_1, zb_G, d_T, d_F, d_eT, d_eF, b2i_t, b2i_f, tn_nI, fa_lit, fa_litL, m1_e, nI_add, pk_mul, pk_sub, nI_leI, nI_ltI, nI_eq, le_T, le_F, lt_T, lt_F, eq_T, eq_F, if_pos, if_neg, m1_le, m1_lt', m1_gt, m1_le', m1_eq, m1_qe, b2i_eq0, in_N, in_n, in_I, ↓reduceIte, Bool.true_eq_false, Bool.false_eq_true, reduceCtorEq, decide_eq_true_eq, decide_eq_false_iff_not, Nat.not_lt, Nat.not_le, not_true_eq_false, not_false_eq_true, true_and, and_true, and_self, false_and, and_false, true_or, or_true, false_or, or_false, f_X11_actBySeed_62, f_X11_actBySeed_52, f_X11_actBySeed_97, f_X11_actBySeed_14, f_X11_actBySeed, S.k0, d1, c3, S1.k0, d2, S2.k0, d3, S3.k0, S3.r0_6, S3.k86, h9, i1]
    | some s =>
      obtain ⟨g, b, rk⟩ := s
      rw [acB_a c3 q]
      obtain ⟨n32, hg, b1, b2⟩ := se_ok okn q
      have b3 := (okn.gt hg).2
      rw [q] at i1 i5 i6
      have i1 : f_X1_search (x + 86) a (nI (dN (dN (dN sd)) / 64 % 16 + 1)) g3 = some (nI 1, g4) := i1
      have i6 := i6 rfl
      obtain ⟨g5, e5, C5, F5, -⟩ := c_allocate i2 okn hr h4 h8 (k := dN (dN sd) / 64 % 15) (g := g) (b := b) (l := lnS M cd (dN (dN (dN sd)) / 64 % 16 + 1)) (w := dN (dN (dN sd)) / 64 % 16 + 1) (by omega) n32 hg (by omega) i5.1 i5.2.1 i6
      refine ⟨g5, ?_, C5, ((F1.trans F2).trans (F3.trans i3)).trans F5⟩
      rw [b2i_t]
      clear C5 C3 C2 C1 i2 b1 b2 i5 i6 O3 q
      generalize dN (dN (dN sd)) / 64 % 16 = t at *
      generalize dN (dN sd) / 64 % 15 = k at *
      generalize dN sd / 64 % 3 = u at *
      simp (disch := omega) only [nm, bd_s, ko_K, ka_K, koK_t, kaK_t, kr_s, kn_s, kn_n, hK_sI, hR_sI, hK_sL, hR_sL, hI_sL, hL_sI, hL_sL, hI_sI, hN_sI, hN_sL, ch_G, ch_T, nb_0, nb_1, zb_G, d_T, d_F, d_eT, d_eF, b2i_t, b2i_f, tn_nI, fa_lit, fa_litL, m1_e, nI_add, pk_mul, pk_sub, nI_leI, nI_ltI, nI_eq, le_T, le_F, lt_T, lt_F, eq_T, eq_F, if_pos, if_neg, m1_le, m1_lt', m1_gt, m1_le', m1_eq, m1_qe, b2i_eq0, in_N, in_n, in_I, ↓reduceIte, Bool.true_eq_false, Bool.false_eq_true, reduceCtorEq, decide_eq_true_eq, decide_eq_false_iff_not, Nat.not_lt, Nat.not_le, not_true_eq_false, not_false_eq_true, true_and, and_true, and_self, false_and, and_false, true_or, or_true, false_or, or_false, f_X11_actBySeed_62, f_X11_actBySeed_52, f_X11_actBySeed_97, f_X11_actBySeed_14, f_X11_actBySeed, S.k0, d1, c3, S1.k0, d2, S2.k0, d3, S3.k0, S3.r0_6, S3.k86, h9, i1, S4.k0, e5]
theorem m_act (Q : CM h (x + 107) (r, tl, tp, rf, ft, fp, sd) (M, mem, sh, ns, kd, cd) N (sl, nx, c, cr) (rn, rw_) (on_, ob)) (O : Ok (r, tl, tp, rf, ft, fp, sd) (M, mem, sh, ns, kd, cd) N (sl, nx, c, cr) (rn, rw_) (on_, ob)) (hr : r = 1) : ∃ h1, f_X12_isDrawn (x + 107) h = some (b2i (acB M mem cd N sd).1, h1) ∧ CM h1 (x + 107) (r, tl, tp, rf, ft, fp, (acB M mem cd N sd).2.2) (M, mem, sh, ns, kd, cd) (acB M mem cd N sd).2.1 (sl, nx, c, cr) (rn, rw_) (on_, ob) ∧ FM x h h1 := by
  have okn := O.okn hr
  obtain ⟨h4, h8, -, mm, -⟩ := O.okb hr
  have T := Q.1
  obtain ⟨d1, Q1, F1⟩ := m_draw Q O.sds (m := 3) (by omega) (by omega)
  have T1 := Q1.1
  obtain ⟨d2, Q2, F2⟩ := m_draw Q1 (dN_lt _) (m := 15) (by omega) (by omega)
  have T2 := Q2.1
  generalize sL h (x + 107) 65 (lN (dN sd)) = g1 at *
  generalize sL g1 (x + 107) 65 (lN (dN (dN sd))) = g2 at *
  by_cases c3 : dN sd / 64 % 3 = 2
  · have ow := m_objectBy Q2 okn hr h4 h8 (k := dN (dN sd) / 64 % 15) (by omega)
    rw [c3] at d1
    cases q : obN M N (dN (dN sd) / 64 % 15) with
    | none =>
      rw [acB_n c3 q]
      rw [q] at ow
      have ow : f_X12_objectBy (x + 107) (nI (dN (dN sd) / 64 % 15)) g2 = some (-nI 1, g2) := ow
      refine ⟨g2, ?_, Q2, F1.trans F2⟩
      rw [b2i_f]
      simp (disch := omega) only [nm, bd_s, ko_K, ka_K, koK_t, kaK_t, kr_s, kn_s, kn_n, hK_sI, hR_sI, hK_sL, hR_sL, hI_sL, hL_sI, hL_sL, hI_sI, hN_sI, hN_sL, ch_G, ch_T, nb_0, nb_1, zb_G, d_T, d_F, d_eT, d_eF, b2i_t, b2i_f, tn_nI, fa_lit, fa_litL, m1_e, nI_add, pk_mul, pk_sub, nI_leI, nI_ltI, nI_eq, le_T, le_F, lt_T, lt_F, eq_T, eq_F, if_pos, if_neg, m1_le, m1_lt', m1_gt, m1_le', m1_eq, m1_qe, b2i_eq0, in_N, in_n, in_I, ↓reduceIte, Bool.true_eq_false, Bool.false_eq_true, reduceCtorEq, decide_eq_true_eq, decide_eq_false_iff_not, Nat.not_lt, Nat.not_le, not_true_eq_false, not_false_eq_true, true_and, and_true, and_self, false_and, and_false, true_or, or_true, false_or, or_false, f_X12_isDrawn, T.k, d1, T1.k, d2, T2.k, ow]
    | some i =>
      rw [acB_f c3 q]
      rw [q] at ow
      have ow : f_X12_objectBy (x + 107) (nI (dN (dN sd) / 64 % 15)) g2 = some (nI i, g2) := ow
      have n32 := okn.2.2.2.2.1
      have hi := obN_lt q
      obtain ⟨g3, e3, Q3, F3⟩ := m_frees Q2 okn h4 h8 mm hi
      refine ⟨g3, ?_, Q3, (F1.trans F2).trans F3⟩
      rw [b2i_t]
      simp (disch := omega) only [nm, bd_s, ko_K, ka_K, koK_t, kaK_t, kr_s, kn_s, kn_n, hK_sI, hR_sI, hK_sL, hR_sL, hI_sL, hL_sI, hL_sL, hI_sI, hN_sI, hN_sL, ch_G, ch_T, nb_0, nb_1, zb_G, d_T, d_F, d_eT, d_eF, b2i_t, b2i_f, tn_nI, fa_lit, fa_litL, m1_e, nI_add, pk_mul, pk_sub, nI_leI, nI_ltI, nI_eq, le_T, le_F, lt_T, lt_F, eq_T, eq_F, if_pos, if_neg, m1_le, m1_lt', m1_gt, m1_le', m1_eq, m1_qe, b2i_eq0, in_N, in_n, in_I, ↓reduceIte, Bool.true_eq_false, Bool.false_eq_true, reduceCtorEq, decide_eq_true_eq, decide_eq_false_iff_not, Nat.not_lt, Nat.not_le, not_true_eq_false, not_false_eq_true, true_and, and_true, and_self, false_and, and_false, true_or, or_true, false_or, or_false, f_X12_isDrawn, T.k, d1, T1.k, d2, T2.k, ow, e3]
  · obtain ⟨d3, Q3, F3⟩ := m_draw Q2 (dN_lt _) (m := 16) (by omega) (by omega)
    have T3 := Q3.1
    generalize sL g2 (x + 107) 65 (lN (dN (dN (dN sd)))) = g3 at *
    have O3 := O.up hr okn (dN_lt (dN (dN sd)))
    have d16 : dN (dN (dN sd)) / 64 % 16 < 16 := Nat.mod_lt _ (by omega)
    have dk : dN (dN sd) / 64 % 15 < 15 := Nat.mod_lt _ (by omega)
    have dm : dN sd / 64 % 3 < 3 := Nat.mod_lt _ (by omega)
    obtain ⟨g4, i1, i2, i3, i4⟩ := m_roomFor2 Q3 O3 hr (w := dN (dN (dN sd)) / 64 % 16 + 1) (by omega) (by omega)
    have T4 := i2.1
    cases q : seS M mem cd N (dN (dN (dN sd)) / 64 % 16 + 1) with
    | none =>
      rw [acB_z c3 q]
      rw [q] at i1
      have i1 : f_X12_roomFor (x + 107) (nI (dN (dN (dN sd)) / 64 % 16 + 1)) g3 = some (-nI 1, g4) := i1
      refine ⟨g4, ?_, i2, (F1.trans F2).trans (F3.trans i3)⟩
      rw [b2i_f]
      generalize dN (dN (dN sd)) / 64 % 16 = t at *
      generalize dN (dN sd) / 64 % 15 = k at *
      generalize dN sd / 64 % 3 = u at *
      simp (disch := omega) only [nm, bd_s, ko_K, ka_K, koK_t, kaK_t, kr_s, kn_s, kn_n, hK_sI, hR_sI, hK_sL, hR_sL, hI_sL, hL_sI, hL_sL, hI_sI, hN_sI, hN_sL, ch_G, ch_T, nb_0, nb_1, zb_G, d_T, d_F, d_eT, d_eF, b2i_t, b2i_f, tn_nI, fa_lit, fa_litL, m1_e, nI_add, pk_mul, pk_sub, nI_leI, nI_ltI, nI_eq, le_T, le_F, lt_T, lt_F, eq_T, eq_F, if_pos, if_neg, m1_le, m1_lt', m1_gt, m1_le', m1_eq, m1_qe, b2i_eq0, in_N, in_n, in_I, ↓reduceIte, Bool.true_eq_false, Bool.false_eq_true, reduceCtorEq, decide_eq_true_eq, decide_eq_false_iff_not, Nat.not_lt, Nat.not_le, not_true_eq_false, not_false_eq_true, true_and, and_true, and_self, false_and, and_false, true_or, or_true, false_or, or_false, f_X12_isDrawn, T.k, d1, c3, T1.k, d2, T2.k, d3, T3.k, i1]
    | some s =>
      obtain ⟨g, b, rk⟩ := s
      rw [acB_a c3 q]
      obtain ⟨n32, hg, b1, b2⟩ := se_ok okn q
      obtain ⟨y1, y2, y3⟩ := ln_b (M := M) (cd := cd) (w := dN (dN (dN sd)) / 64 % 16 + 1) h4 (by omega) (by omega)
      have b3 := (okn.gt hg).2
      have n1 := ne1 (n := b) (by omega)
      rw [q] at i1
      have i1 : f_X12_roomFor (x + 107) (nI (dN (dN (dN sd)) / 64 % 16 + 1)) g3 = some (nI b, g4) := i1
      obtain ⟨g5, e5, Q5, F5⟩ := m_allocates i2 okn h4 h8 mm (k := dN (dN sd) / 64 % 15) (g := g) (b := b) (l := lnS M cd (dN (dN (dN sd)) / 64 % 16 + 1)) (w := dN (dN (dN sd)) / 64 % 16 + 1) (by omega) hg n32 y2 b1 b2 (i4 n32)
      refine ⟨g5, ?_, Q5, ((F1.trans F2).trans (F3.trans i3)).trans F5⟩
      rw [b2i_t]
      clear Q5 Q3 Q2 Q1 i2 b1 b2 i4 O3 q y1 y2 y3
      generalize dN (dN (dN sd)) / 64 % 16 = t at *
      generalize dN (dN sd) / 64 % 15 = k at *
      generalize dN sd / 64 % 3 = u at *
      simp (disch := omega) only [nm, bd_s, ko_K, ka_K, koK_t, kaK_t, kr_s, kn_s, kn_n, hK_sI, hR_sI, hK_sL, hR_sL, hI_sL, hL_sI, hL_sL, hI_sI, hN_sI, hN_sL, ch_G, ch_T, nb_0, nb_1, zb_G, d_T, d_F, d_eT, d_eF, b2i_t, b2i_f, tn_nI, fa_lit, fa_litL, m1_e, nI_add, pk_mul, pk_sub, nI_leI, nI_ltI, nI_eq, le_T, le_F, lt_T, lt_F, eq_T, eq_F, if_pos, if_neg, m1_le, m1_lt', m1_gt, m1_le', m1_eq, m1_qe, b2i_eq0, in_N, in_n, in_I, ↓reduceIte, Bool.true_eq_false, Bool.false_eq_true, reduceCtorEq, decide_eq_true_eq, decide_eq_false_iff_not, Nat.not_lt, Nat.not_le, not_true_eq_false, not_false_eq_true, true_and, and_true, and_self, false_and, and_false, true_or, or_true, false_or, or_false, f_X12_isDrawn, T.k, d1, c3, T1.k, d2, T2.k, d3, T3.k, i1, n1, T4.k, e5]
/-- all of them -/
def chF (M mem : Nat) (cd : Nat → List Nat) : Nat → Nat → tyN → Nat → Nat × tyN × Nat
  | 0, d, N, sd => (d, N, sd)
  | j + 1, d, N, sd => chF M mem cd j (if (acB M mem cd N sd).1 then d + 1 else d) (acB M mem cd N sd).2.1 (acB M mem cd N sd).2.2
theorem c_acts (hr : r = 1) {n0 : Nat} (h40 : n0 ≤ 40) : ∀ (j i n d : Nat) (N' : tyN) (sd' : Nat) (hh : aH), i + j = n0 → j < n → d ≤ i → CX hh x (r, tl, tp, rf, ft, fp, sd') (M, mem, sh, ns, kd, cd) N' (sl, nx, c, cr) (rn, rw_) (on_, ob) → Ok (r, tl, tp, rf, ft, fp, sd') (M, mem, sh, ns, kd, cd) N' (sl, nx, c, cr) (rn, rw_) (on_, ob) → ∃ h1, f_X11_chance_39 n x (nI n0) (nI d) (nI i) hh = some (nI (chF M mem cd j d N' sd').1, h1) ∧ CX h1 x (r, tl, tp, rf, ft, fp, (chF M mem cd j d N' sd').2.2) (M, mem, sh, ns, kd, cd) (chF M mem cd j d N' sd').2.1 (sl, nx, c, cr) (rn, rw_) (on_, ob) ∧ FC x hh h1 ∧ Ok (r, tl, tp, rf, ft, fp, (chF M mem cd j d N' sd').2.2) (M, mem, sh, ns, kd, cd) (chF M mem cd j d N' sd').2.1 (sl, nx, c, cr) (rn, rw_) (on_, ob) := by
  intro j
  induction j with
  | zero =>
    intro i n d N' sd' hh hi hn hd C O
    obtain ⟨n, rfl⟩ : ∃ k, n = k + 1 := ⟨n - 1, by omega⟩
    have hi : i = n0 := by omega
    subst hi
    refine ⟨hh, ?_, C, FC.refl x hh, O⟩
    show _ = some (nI d, hh)
    simp (disch := omega) only [nm, bd_s, ko_K, ka_K, koK_t, kaK_t, kr_s, kn_s, kn_n, hK_sI, hR_sI, hK_sL, hR_sL, hI_sL, hL_sI, hL_sL, hI_sI, hN_sI, hN_sL, ch_G, ch_T, nb_0, nb_1, zb_G, d_T, d_F, d_eT, d_eF, b2i_t, b2i_f, tn_nI, fa_lit, fa_litL, m1_e, nI_add, pk_mul, pk_sub, nI_leI, nI_ltI, nI_eq, le_T, le_F, lt_T, lt_F, eq_T, eq_F, if_pos, if_neg, m1_le, m1_lt', m1_gt, m1_le', m1_eq, m1_qe, b2i_eq0, in_N, in_n, in_I, ↓reduceIte, Bool.true_eq_false, Bool.false_eq_true, reduceCtorEq, decide_eq_true_eq, decide_eq_false_iff_not, Nat.not_lt, Nat.not_le, not_true_eq_false, not_false_eq_true, true_and, and_true, and_self, false_and, and_false, true_or, or_true, false_or, or_false, f_X11_chance_39, b_X11_chance_39]
  | succ j ih =>
    intro i n d N' sd' hh hi hn hd C O
    obtain ⟨n, rfl⟩ : ∃ k, n = k + 1 := ⟨n - 1, by omega⟩
    have S := C.1
    obtain ⟨h1, e1, C1, F1⟩ := c_act (N := N') (sd := sd') C O hr
    obtain ⟨ok1, ok2⟩ := ac_ok (N := N') (sd := sd') O hr
    have O1 := Ok.up (N := N') (sd := sd') O hr ok1 ok2
    have uz : chF M mem cd (j + 1) d N' sd' = chF M mem cd j (if (acB M mem cd N' sd').1 then d + 1 else d) (acB M mem cd N' sd').2.1 (acB M mem cd N' sd').2.2 := rfl
    rw [uz]
    clear uz
    generalize acB M mem cd N' sd' = p at *
    cases q : p.1 with
    | true =>
      rw [q, b2i_t] at e1
      rw [if_pos rfl]
      obtain ⟨h2, e2, C2, F2, O2⟩ := ih (i + 1) n (d + 1) p.2.1 p.2.2 h1 (by omega) (by omega) (by omega) C1 O1
      refine ⟨h2, ?_, C2, F1.trans F2, O2⟩
      rw [← e2]
      simp (disch := omega) only [nm, bd_s, ko_K, ka_K, koK_t, kaK_t, kr_s, kn_s, kn_n, hK_sI, hR_sI, hK_sL, hR_sL, hI_sL, hL_sI, hL_sL, hI_sI, hN_sI, hN_sL, ch_G, ch_T, nb_0, nb_1, zb_G, d_T, d_F, d_eT, d_eF, b2i_t, b2i_f, tn_nI, fa_lit, fa_litL, m1_e, nI_add, pk_mul, pk_sub, nI_leI, nI_ltI, nI_eq, le_T, le_F, lt_T, lt_F, eq_T, eq_F, if_pos, if_neg, m1_le, m1_lt', m1_gt, m1_le', m1_eq, m1_qe, b2i_eq0, in_N, in_n, in_I, ↓reduceIte, Bool.true_eq_false, Bool.false_eq_true, reduceCtorEq, decide_eq_true_eq, decide_eq_false_iff_not, Nat.not_lt, Nat.not_le, not_true_eq_false, not_false_eq_true, true_and, and_true, and_self, false_and, and_false, true_or, or_true, false_or, or_false, f_X11_chance_39, b_X11_chance_39, f_X11_chance_54, S.k0, e1]
    | false =>
      rw [q, b2i_f] at e1
      rw [if_neg (by decide)]
      obtain ⟨h2, e2, C2, F2, O2⟩ := ih (i + 1) n d p.2.1 p.2.2 h1 (by omega) (by omega) (by omega) C1 O1
      refine ⟨h2, ?_, C2, F1.trans F2, O2⟩
      rw [← e2]
      simp (disch := omega) only [nm, bd_s, ko_K, ka_K, koK_t, kaK_t, kr_s, kn_s, kn_n, hK_sI, hR_sI, hK_sL, hR_sL, hI_sL, hL_sI, hL_sL, hI_sI, hN_sI, hN_sL, ch_G, ch_T, nb_0, nb_1, zb_G, d_T, d_F, d_eT, d_eF, b2i_t, b2i_f, tn_nI, fa_lit, fa_litL, m1_e, nI_add, pk_mul, pk_sub, nI_leI, nI_ltI, nI_eq, le_T, le_F, lt_T, lt_F, eq_T, eq_F, if_pos, if_neg, m1_le, m1_lt', m1_gt, m1_le', m1_eq, m1_qe, b2i_eq0, in_N, in_n, in_I, ↓reduceIte, Bool.true_eq_false, Bool.false_eq_true, reduceCtorEq, decide_eq_true_eq, decide_eq_false_iff_not, Nat.not_lt, Nat.not_le, not_true_eq_false, not_false_eq_true, true_and, and_true, and_self, false_and, and_false, true_or, or_true, false_or, or_false, f_X11_chance_39, b_X11_chance_39, f_X11_chance_54, S.k0, e1]
theorem m_acts (hr : r = 1) {n0 : Nat} (h40 : n0 ≤ 40) : ∀ (j i n d : Nat) (N' : tyN) (sd' : Nat) (hh : aH), i + j = n0 → j < n → d ≤ i → CM hh (x + 107) (r, tl, tp, rf, ft, fp, sd') (M, mem, sh, ns, kd, cd) N' (sl, nx, c, cr) (rn, rw_) (on_, ob) → Ok (r, tl, tp, rf, ft, fp, sd') (M, mem, sh, ns, kd, cd) N' (sl, nx, c, cr) (rn, rw_) (on_, ob) → ∃ h1, f_X12_chance_33 n (x + 107) (nI n0) (nI d) (nI i) hh = some (nI (chF M mem cd j d N' sd').1, h1) ∧ CM h1 (x + 107) (r, tl, tp, rf, ft, fp, (chF M mem cd j d N' sd').2.2) (M, mem, sh, ns, kd, cd) (chF M mem cd j d N' sd').2.1 (sl, nx, c, cr) (rn, rw_) (on_, ob) ∧ FM x hh h1 := by
  intro j
  induction j with
  | zero =>
    intro i n d N' sd' hh hi hn hd C O
    obtain ⟨n, rfl⟩ : ∃ k, n = k + 1 := ⟨n - 1, by omega⟩
    have hi : i = n0 := by omega
    subst hi
    refine ⟨hh, ?_, C, FM.refl x hh⟩
    show _ = some (nI d, hh)
    simp (disch := omega) only [nm, bd_s, ko_K, ka_K, koK_t, kaK_t, kr_s, kn_s, kn_n, hK_sI, hR_sI, hK_sL, hR_sL, hI_sL, hL_sI, hL_sL, hI_sI, hN_sI, hN_sL, ch_G, ch_T, nb_0, nb_1, zb_G, d_T, d_F, d_eT, d_eF, b2i_t, b2i_f, tn_nI, fa_lit, fa_litL, m1_e, nI_add, pk_mul, pk_sub, nI_leI, nI_ltI, nI_eq, le_T, le_F, lt_T, lt_F, eq_T, eq_F, if_pos, if_neg, m1_le, m1_lt', m1_gt, m1_le', m1_eq, m1_qe, b2i_eq0, in_N, in_n, in_I, ↓reduceIte, Bool.true_eq_false, Bool.false_eq_true, reduceCtorEq, decide_eq_true_eq, decide_eq_false_iff_not, Nat.not_lt, Nat.not_le, not_true_eq_false, not_false_eq_true, true_and, and_true, and_self, false_and, and_false, true_or, or_true, false_or, or_false, f_X12_chance_33, b_X12_chance_33]
  | succ j ih =>
    intro i n d N' sd' hh hi hn hd C O
    obtain ⟨n, rfl⟩ : ∃ k, n = k + 1 := ⟨n - 1, by omega⟩
    have T := C.1
    obtain ⟨h1, e1, C1, F1⟩ := m_act (N := N') (sd := sd') C O hr
    obtain ⟨ok1, ok2⟩ := ac_ok (N := N') (sd := sd') O hr
    have O1 := Ok.up (N := N') (sd := sd') O hr ok1 ok2
    have uz : chF M mem cd (j + 1) d N' sd' = chF M mem cd j (if (acB M mem cd N' sd').1 then d + 1 else d) (acB M mem cd N' sd').2.1 (acB M mem cd N' sd').2.2 := rfl
    rw [uz]
    clear uz
    generalize acB M mem cd N' sd' = p at *
    cases q : p.1 with
    | true =>
      rw [q, b2i_t] at e1
      rw [if_pos rfl]
      obtain ⟨h2, e2, C2, F2⟩ := ih (i + 1) n (d + 1) p.2.1 p.2.2 h1 (by omega) (by omega) (by omega) C1 O1
      refine ⟨h2, ?_, C2, F1.trans F2⟩
      rw [← e2]
      simp (disch := omega) only [nm, bd_s, ko_K, ka_K, koK_t, kaK_t, kr_s, kn_s, kn_n, hK_sI, hR_sI, hK_sL, hR_sL, hI_sL, hL_sI, hL_sL, hI_sI, hN_sI, hN_sL, ch_G, ch_T, nb_0, nb_1, zb_G, d_T, d_F, d_eT, d_eF, b2i_t, b2i_f, tn_nI, fa_lit, fa_litL, m1_e, nI_add, pk_mul, pk_sub, nI_leI, nI_ltI, nI_eq, le_T, le_F, lt_T, lt_F, eq_T, eq_F, if_pos, if_neg, m1_le, m1_lt', m1_gt, m1_le', m1_eq, m1_qe, b2i_eq0, in_N, in_n, in_I, ↓reduceIte, Bool.true_eq_false, Bool.false_eq_true, reduceCtorEq, decide_eq_true_eq, decide_eq_false_iff_not, Nat.not_lt, Nat.not_le, not_true_eq_false, not_false_eq_true, true_and, and_true, and_self, false_and, and_false, true_or, or_true, false_or, or_false, f_X12_chance_33, b_X12_chance_33, f_X12_chance_48, T.k, e1]
    | false =>
      rw [q, b2i_f] at e1
      rw [if_neg (by decide)]
      obtain ⟨h2, e2, C2, F2⟩ := ih (i + 1) n d p.2.1 p.2.2 h1 (by omega) (by omega) (by omega) C1 O1
      refine ⟨h2, ?_, C2, F1.trans F2⟩
      rw [← e2]
      simp (disch := omega) only [nm, bd_s, ko_K, ka_K, koK_t, kaK_t, kr_s, kn_s, kn_n, hK_sI, hR_sI, hK_sL, hR_sL, hI_sL, hL_sI, hL_sL, hI_sI, hN_sI, hN_sL, ch_G, ch_T, nb_0, nb_1, zb_G, d_T, d_F, d_eT, d_eF, b2i_t, b2i_f, tn_nI, fa_lit, fa_litL, m1_e, nI_add, pk_mul, pk_sub, nI_leI, nI_ltI, nI_eq, le_T, le_F, lt_T, lt_F, eq_T, eq_F, if_pos, if_neg, m1_le, m1_lt', m1_gt, m1_le', m1_eq, m1_qe, b2i_eq0, in_N, in_n, in_I, ↓reduceIte, Bool.true_eq_false, Bool.false_eq_true, reduceCtorEq, decide_eq_true_eq, decide_eq_false_iff_not, Nat.not_lt, Nat.not_le, not_true_eq_false, not_false_eq_true, true_and, and_true, and_self, false_and, and_false, true_or, or_true, false_or, or_false, f_X12_chance_33, b_X12_chance_33, f_X12_chance_48, T.k, e1]
theorem S_chance (C : CX h x (r, tl, tp, rf, ft, fp, sd) (M, mem, sh, ns, kd, cd) N (sl, nx, c, cr) (rn, rw_) (on_, ob)) (Q : CM h (x + 107) (r, tl, tp, rf, ft, fp, sd) (M, mem, sh, ns, kd, cd) N (sl, nx, c, cr) (rn, rw_) (on_, ob)) (O : Ok (r, tl, tp, rf, ft, fp, sd) (M, mem, sh, ns, kd, cd) N (sl, nx, c, cr) (rn, rw_) (on_, ob)) (p : Int32) : SM Int32 x h (f_X11_chance x p) (f_X12_chance (x + 107) p) := by
  have S := C.1
  have rfx := c_refuse (k := 2) S (by omega)
  have e0 : hI h x 12 = nI r := C.2.1.1
  have n10 : (nI 1 = nI 0) = False := eq_false (by decide)
  rcases O.r01 with hr | hr
  · rw [hr] at e0
    refine glueR (k := 2) (v := -nI 1) C Q O (by omega) ?_ (fun g1 Q1 => ?_)
    · simp (disch := omega) only [nm, bd_s, ko_K, ka_K, koK_t, kaK_t, kr_s, kn_s, kn_n, hK_sI, hR_sI, hK_sL, hR_sL, hI_sL, hL_sI, hL_sL, hI_sI, hN_sI, hN_sL, ch_G, ch_T, nb_0, nb_1, zb_G, d_T, d_F, d_eT, d_eF, b2i_t, b2i_f, tn_nI, fa_lit, fa_litL, m1_e, nI_add, pk_mul, pk_sub, nI_leI, nI_ltI, nI_eq, le_T, le_F, lt_T, lt_F, eq_T, eq_F, if_pos, if_neg, m1_le, m1_lt', m1_gt, m1_le', m1_eq, m1_qe, b2i_eq0, in_N, in_n, in_I, ↓reduceIte, Bool.true_eq_false, Bool.false_eq_true, reduceCtorEq, decide_eq_true_eq, decide_eq_false_iff_not, Nat.not_lt, Nat.not_le, not_true_eq_false, not_false_eq_true, true_and, and_true, and_self, false_and, and_false, true_or, or_true, false_or, or_false, f_X11_chance_18, f_X11_chance_54, b_X11_chance_39, f_X11_chance_39, f_X11_chance, S.k0, e0, rfx]
    · have T1 := Q1.1
      have e1 : hI g1 (x + 107) 45 = nI r := Q1.2.1.1
      rw [hr] at e1
      have rfm := m_refuses (k := 2) T1 (by omega)
      simp (disch := omega) only [nm, bd_s, ko_K, ka_K, koK_t, kaK_t, kr_s, kn_s, kn_n, hK_sI, hR_sI, hK_sL, hR_sL, hI_sL, hL_sI, hL_sL, hI_sI, hN_sI, hN_sL, ch_G, ch_T, nb_0, nb_1, zb_G, d_T, d_F, d_eT, d_eF, b2i_t, b2i_f, tn_nI, fa_lit, fa_litL, m1_e, nI_add, pk_mul, pk_sub, nI_leI, nI_ltI, nI_eq, le_T, le_F, lt_T, lt_F, eq_T, eq_F, if_pos, if_neg, m1_le, m1_lt', m1_gt, m1_le', m1_eq, m1_qe, b2i_eq0, in_N, in_n, in_I, ↓reduceIte, Bool.true_eq_false, Bool.false_eq_true, reduceCtorEq, decide_eq_true_eq, decide_eq_false_iff_not, Nat.not_lt, Nat.not_le, not_true_eq_false, not_false_eq_true, true_and, and_true, and_self, false_and, and_false, true_or, or_true, false_or, or_false, f_X12_chance_19, f_X12_chance_48, b_X12_chance_33, f_X12_chance_33, f_X12_chance, T1.k, e1, rfm]
  · rw [hr] at e0
    rcases pk_ix p (n := 41) (by omega) with hw | hw | ⟨w, hw, rfl⟩
    · have z1 : (p < nI 1) = True := eq_true (Int32.lt_trans hw (by decide))
      refine glueR (k := 2) (v := -nI 1) C Q O (by omega) ?_ (fun g1 Q1 => ?_)
      · simp (disch := omega) only [nm, bd_s, ko_K, ka_K, koK_t, kaK_t, kr_s, kn_s, kn_n, hK_sI, hR_sI, hK_sL, hR_sL, hI_sL, hL_sI, hL_sL, hI_sI, hN_sI, hN_sL, ch_G, ch_T, nb_0, nb_1, zb_G, d_T, d_F, d_eT, d_eF, b2i_t, b2i_f, tn_nI, fa_lit, fa_litL, m1_e, nI_add, pk_mul, pk_sub, nI_leI, nI_ltI, nI_eq, le_T, le_F, lt_T, lt_F, eq_T, eq_F, if_pos, if_neg, m1_le, m1_lt', m1_gt, m1_le', m1_eq, m1_qe, b2i_eq0, in_N, in_n, in_I, ↓reduceIte, Bool.true_eq_false, Bool.false_eq_true, reduceCtorEq, decide_eq_true_eq, decide_eq_false_iff_not, Nat.not_lt, Nat.not_le, not_true_eq_false, not_false_eq_true, true_and, and_true, and_self, false_and, and_false, true_or, or_true, false_or, or_false, f_X11_chance_18, f_X11_chance_54, b_X11_chance_39, f_X11_chance_39, f_X11_chance, S.k0, e0, z1, rfx]
      · have T1 := Q1.1
        have e1 : hI g1 (x + 107) 45 = nI r := Q1.2.1.1
        rw [hr] at e1
        have rfm := m_refuses (k := 2) T1 (by omega)
        simp (disch := omega) only [nm, bd_s, ko_K, ka_K, koK_t, kaK_t, kr_s, kn_s, kn_n, hK_sI, hR_sI, hK_sL, hR_sL, hI_sL, hL_sI, hL_sL, hI_sI, hN_sI, hN_sL, ch_G, ch_T, nb_0, nb_1, zb_G, d_T, d_F, d_eT, d_eF, b2i_t, b2i_f, tn_nI, fa_lit, fa_litL, m1_e, nI_add, pk_mul, pk_sub, nI_leI, nI_ltI, nI_eq, le_T, le_F, lt_T, lt_F, eq_T, eq_F, if_pos, if_neg, m1_le, m1_lt', m1_gt, m1_le', m1_eq, m1_qe, b2i_eq0, in_N, in_n, in_I, ↓reduceIte, Bool.true_eq_false, Bool.false_eq_true, reduceCtorEq, decide_eq_true_eq, decide_eq_false_iff_not, Nat.not_lt, Nat.not_le, not_true_eq_false, not_false_eq_true, true_and, and_true, and_self, false_and, and_false, true_or, or_true, false_or, or_false, f_X12_chance_19, f_X12_chance_48, b_X12_chance_33, f_X12_chance_33, f_X12_chance, T1.k, e1, ng_lt' hw, ng_le' hw, ng_le hw, ng_lt hw, ng_eq hw, ng_qe hw, in_g hw, in_gN hw, rfm]
    · refine glueR (k := 2) (v := -nI 1) C Q O (by omega) ?_ (fun g1 Q1 => ?_)
      · simp (disch := omega) only [nm, bd_s, ko_K, ka_K, koK_t, kaK_t, kr_s, kn_s, kn_n, hK_sI, hR_sI, hK_sL, hR_sL, hI_sL, hL_sI, hL_sL, hI_sI, hN_sI, hN_sL, ch_G, ch_T, nb_0, nb_1, zb_G, d_T, d_F, d_eT, d_eF, b2i_t, b2i_f, tn_nI, fa_lit, fa_litL, m1_e, nI_add, pk_mul, pk_sub, nI_leI, nI_ltI, nI_eq, le_T, le_F, lt_T, lt_F, eq_T, eq_F, if_pos, if_neg, m1_le, m1_lt', m1_gt, m1_le', m1_eq, m1_qe, b2i_eq0, in_N, in_n, in_I, ↓reduceIte, Bool.true_eq_false, Bool.false_eq_true, reduceCtorEq, decide_eq_true_eq, decide_eq_false_iff_not, Nat.not_lt, Nat.not_le, not_true_eq_false, not_false_eq_true, true_and, and_true, and_self, false_and, and_false, true_or, or_true, false_or, or_false, f_X11_chance_18, f_X11_chance_54, b_X11_chance_39, f_X11_chance_39, f_X11_chance, S.k0, e0, bg_lt hw, bg_le hw, rfx]
      · have T1 := Q1.1
        have e1 : hI g1 (x + 107) 45 = nI r := Q1.2.1.1
        rw [hr] at e1
        have rfm := m_refuses (k := 2) T1 (by omega)
        simp (disch := omega) only [nm, bd_s, ko_K, ka_K, koK_t, kaK_t, kr_s, kn_s, kn_n, hK_sI, hR_sI, hK_sL, hR_sL, hI_sL, hL_sI, hL_sL, hI_sI, hN_sI, hN_sL, ch_G, ch_T, nb_0, nb_1, zb_G, d_T, d_F, d_eT, d_eF, b2i_t, b2i_f, tn_nI, fa_lit, fa_litL, m1_e, nI_add, pk_mul, pk_sub, nI_leI, nI_ltI, nI_eq, le_T, le_F, lt_T, lt_F, eq_T, eq_F, if_pos, if_neg, m1_le, m1_lt', m1_gt, m1_le', m1_eq, m1_qe, b2i_eq0, in_N, in_n, in_I, ↓reduceIte, Bool.true_eq_false, Bool.false_eq_true, reduceCtorEq, decide_eq_true_eq, decide_eq_false_iff_not, Nat.not_lt, Nat.not_le, not_true_eq_false, not_false_eq_true, true_and, and_true, and_self, false_and, and_false, true_or, or_true, false_or, or_false, f_X12_chance_19, f_X12_chance_48, b_X12_chance_33, f_X12_chance_33, f_X12_chance, T1.k, e1, in_bN hw, rfm]
    · by_cases w0 : w = 0
      · subst w0
        refine glueR (k := 2) (v := -nI 1) C Q O (by omega) ?_ (fun g1 Q1 => ?_)
        · simp (disch := omega) only [nm, bd_s, ko_K, ka_K, koK_t, kaK_t, kr_s, kn_s, kn_n, hK_sI, hR_sI, hK_sL, hR_sL, hI_sL, hL_sI, hL_sL, hI_sI, hN_sI, hN_sL, ch_G, ch_T, nb_0, nb_1, zb_G, d_T, d_F, d_eT, d_eF, b2i_t, b2i_f, tn_nI, fa_lit, fa_litL, m1_e, nI_add, pk_mul, pk_sub, nI_leI, nI_ltI, nI_eq, le_T, le_F, lt_T, lt_F, eq_T, eq_F, if_pos, if_neg, m1_le, m1_lt', m1_gt, m1_le', m1_eq, m1_qe, b2i_eq0, in_N, in_n, in_I, ↓reduceIte, Bool.true_eq_false, Bool.false_eq_true, reduceCtorEq, decide_eq_true_eq, decide_eq_false_iff_not, Nat.not_lt, Nat.not_le, not_true_eq_false, not_false_eq_true, true_and, and_true, and_self, false_and, and_false, true_or, or_true, false_or, or_false, f_X11_chance_18, f_X11_chance_54, b_X11_chance_39, f_X11_chance_39, f_X11_chance, S.k0, e0, rfx]
        · have T1 := Q1.1
          have e1 : hI g1 (x + 107) 45 = nI r := Q1.2.1.1
          rw [hr] at e1
          have rfm := m_refuses (k := 2) T1 (by omega)
          have lz : (lg_cmp (nI 0).toInt64 (lN 1) < nI 0) = True := eq_true (by decide)
          simp (disch := omega) only [nm, bd_s, ko_K, ka_K, koK_t, kaK_t, kr_s, kn_s, kn_n, hK_sI, hR_sI, hK_sL, hR_sL, hI_sL, hL_sI, hL_sL, hI_sI, hN_sI, hN_sL, ch_G, ch_T, nb_0, nb_1, zb_G, d_T, d_F, d_eT, d_eF, b2i_t, b2i_f, tn_nI, fa_lit, fa_litL, m1_e, nI_add, pk_mul, pk_sub, nI_leI, nI_ltI, nI_eq, le_T, le_F, lt_T, lt_F, eq_T, eq_F, if_pos, if_neg, m1_le, m1_lt', m1_gt, m1_le', m1_eq, m1_qe, b2i_eq0, in_N, in_n, in_I, ↓reduceIte, Bool.true_eq_false, Bool.false_eq_true, reduceCtorEq, decide_eq_true_eq, decide_eq_false_iff_not, Nat.not_lt, Nat.not_le, not_true_eq_false, not_false_eq_true, true_and, and_true, and_self, false_and, and_false, true_or, or_true, false_or, or_false, f_X12_chance_19, f_X12_chance_48, b_X12_chance_33, f_X12_chance_33, f_X12_chance, f_X12_isIn_18, f_X12_isIn_17, f_X12_isIn, T1.k, e1, lz, rfm]
      · obtain ⟨n40, n32, -⟩ := O.n0
        obtain ⟨h1, e1, C1, F1⟩ := C.keep n32 n40
        have okd := O.keep hr C.dok
        have okb' := O.okb hr
        have okn := O.okn hr
        have O1 : Ok (r, tl, tp, rf, ft, fp, sd) (M, mem, sh, ns, kd, cd) N (kpS sl nx N, nx1 nx, min 20 (c + 1), kpC nx cr) (rn, rw_) (on_, ob) := ⟨O.1, O.2.1, O.2.2.1, Or.inr ⟨hr, okb', okn, okd⟩⟩
        obtain ⟨h2, e2, C2, F2, O2⟩ := c_acts (x := x) hr (n0 := w) (by omega) w 0 FU 0 N sd h1 (by omega) (FU_gt (by omega)) (by omega) C1 O1
        refine glue Q ⟨h2, ?_, C2, F1.trans F2⟩ (fun g Q0 => ?_) O2 (v := nI (chF M mem cd w 0 N sd).1)
        · simp (disch := omega) only [nm, bd_s, ko_K, ka_K, koK_t, kaK_t, kr_s, kn_s, kn_n, hK_sI, hR_sI, hK_sL, hR_sL, hI_sL, hL_sI, hL_sL, hI_sI, hN_sI, hN_sL, ch_G, ch_T, nb_0, nb_1, zb_G, d_T, d_F, d_eT, d_eF, b2i_t, b2i_f, tn_nI, fa_lit, fa_litL, m1_e, nI_add, pk_mul, pk_sub, nI_leI, nI_ltI, nI_eq, le_T, le_F, lt_T, lt_F, eq_T, eq_F, if_pos, if_neg, m1_le, m1_lt', m1_gt, m1_le', m1_eq, m1_qe, b2i_eq0, in_N, in_n, in_I, ↓reduceIte, Bool.true_eq_false, Bool.false_eq_true, reduceCtorEq, decide_eq_true_eq, decide_eq_false_iff_not, Nat.not_lt, Nat.not_le, not_true_eq_false, not_false_eq_true, true_and, and_true, and_self, false_and, and_false, true_or, or_true, false_or, or_false, f_X11_chance, S.k0, S.r0_4, S.r0_2, S.k81, e0, e1, e2]
        · obtain ⟨g1, e3, Q1, F3⟩ := Q0.keep C.dok
          obtain ⟨g2, e4, Q2, F4⟩ := m_acts (x := x) hr (n0 := w) (by omega) w 0 FU 0 N sd g1 (by omega) (FU_gt (by omega)) (by omega) Q1 O1
          have T := Q0.1
          have e5 : hI g (x + 107) 45 = nI r := Q0.2.1.1
          rw [hr] at e5
          refine ⟨g2, ?_, Q2, F3.trans F4⟩
          simp (disch := omega) only [nm, bd_s, ko_K, ka_K, koK_t, kaK_t, kr_s, kn_s, kn_n, hK_sI, hR_sI, hK_sL, hR_sL, hI_sL, hL_sI, hL_sL, hI_sI, hN_sI, hN_sL, ch_G, ch_T, nb_0, nb_1, zb_G, d_T, d_F, d_eT, d_eF, b2i_t, b2i_f, tn_nI, fa_lit, fa_litL, m1_e, nI_add, pk_mul, pk_sub, nI_leI, nI_ltI, nI_eq, le_T, le_F, lt_T, lt_F, eq_T, eq_F, if_pos, if_neg, m1_le, m1_lt', m1_gt, m1_le', m1_eq, m1_qe, b2i_eq0, in_N, in_n, in_I, ↓reduceIte, Bool.true_eq_false, Bool.false_eq_true, reduceCtorEq, decide_eq_true_eq, decide_eq_false_iff_not, Nat.not_lt, Nat.not_le, not_true_eq_false, not_false_eq_true, true_and, and_true, and_self, false_and, and_false, true_or, or_true, false_or, or_false, f_X12_chance, T.k, e5, e3, e4]
end Ch
