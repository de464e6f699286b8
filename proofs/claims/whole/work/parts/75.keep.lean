/-! a state is kept on both sides -/
section Kp
variable {h h1 : aH} {x s q : Nat} {N : tyN}
theorem XS.fr2 (S : XS h x) (e1 : ∀ b, b < x + 107 → hK h1 b = hK h b) (e2 : ∀ b j, b < x + 107 → ¬ (b = x + 82 ∨ b = x + 83 ∧ 3 ≤ j ∨ b = x + 104 ∧ ¬ j = 2 ∨ b = x + 105 ∨ b = x ∧ (j = 9 ∨ j = 10)) → hR h1 b j = hR h b j) : XS h1 x := by
  refine ⟨S.now.fr (fun b _ q => e1 b (by omega)) (fun b _ q j => e2 b j (by omega) (by omega)), S.draft.fr (fun b _ q => e1 b (by omega)) (fun b _ q j => e2 b j (by omega) (by omega)), ?_⟩
  obtain ⟨-, -, q⟩ := S
  simp (disch := omega) only [XS0, XS1, XS2, XS3, XS4, XS5, e1, e2] at q ⊢
  exact q
theorem RS.cp (R : RS h s N) (n32 : N 256 ≤ 32) (n40 : N 1377 ≤ 40) (ho : s + 39 ≤ q ∨ q + 39 ≤ s) : RS (cpA h q s) q N := by
  obtain ⟨r1, r2, r3, r4, r5, r6⟩ := R
  refine ⟨fun k hk => ?_, ?_, fun i h1 h2 => ?_, ?_, fun i h1 h2 => ?_, fun a ha => ?_⟩
  · have e : ∀ j, j < 8 → hI (cpA h q s) (q + 7 + k) j = hI h (s + 7 + k) j := fun j hj => by
      rw [hI_cpA, if_pos (by omega), show s + (q + 7 + k - q) = s + 7 + k by omega]
    have := r1 k hk
    unfold PS at this ⊢
    rw [e 0 (by omega), e 1 (by omega), e 2 (by omega), e 3 (by omega), e 4 (by omega), e 5 (by omega), e 6 (by omega), e 7 (by omega)]
    exact this
  · rw [hI_cpA, if_neg (by omega), if_neg (by omega), if_neg (by omega), if_neg (by omega), if_pos (by omega)]; exact r2
  · rw [hI_cpA, if_neg (by omega), if_pos (by omega), hI_cpA, if_neg (by omega), if_pos (by omega), hI_cpA, if_neg (by omega), if_pos (by omega), show s + (q + 2 - q) = s + 2 by omega, show s + (q + 3 - q) = s + 3 by omega, show s + (q + 4 - q) = s + 4 by omega]
    exact r3 i h1 h2
  · rw [hI_cpA, if_neg (by omega), if_neg (by omega), if_neg (by omega), if_neg (by omega), if_pos (by omega)]; exact r4
  · rw [hI_cpA, if_neg (by omega), if_neg (by omega), if_pos (by omega)]; exact r5 i h1 h2
  · unfold byP
    rw [hI_cpA, if_neg (by omega), if_neg (by omega), if_neg (by omega), if_pos (by omega)]; exact r6 a ha
theorem RS.flg (R : RS h s N) : flg h s := by
  intro k hk
  rcases R.1 k hk with ⟨-, a1, a2⟩ | ⟨a0, a1, a2, -⟩
  · exact ⟨Or.inl a1, a2⟩
  · exact ⟨Or.inr a1, by rw [a2]; rcases (show N (8 * k) = 0 ∨ N (8 * k) = 1 by omega) with z | z <;> rw [z]; exact Or.inl rfl; exact Or.inr rfl⟩
/-- a new State -/
def nwS (h : aH) (q : Nat) : aH := stP (st6 (nw h (.inl 9) 8) q) q 32
theorem nwS_lo (hn : hN h = q) {b : Nat} (hb : b < q) : hK (nwS h q) b = hK h b ∧ ∀ j, hI (nwS h q) b j = hI h b j ∧ hL (nwS h q) b j = hL h b j ∧ hR (nwS h q) b j = hR h b j := by
  have e1 : hN (nw h (.inl 9) 8) = q + 1 := by rw [hN_nw, hn]
  refine ⟨?_, fun j => ⟨?_, ?_, ?_⟩⟩
  · show (if q + 7 ≤ b ∧ b < q + 7 + 32 then some (Sum.inl 6) else hK (st6 (nw h (.inl 9) 8) q) b) = _
    rw [if_neg (by omega)]
    simp only [st6, hK_sI, hK_af, hN_af, e1, hK_nw, hn]
    rw [if_neg (by omega), if_neg (by omega), if_neg (by omega), if_neg (by omega), if_neg (by omega), if_neg (by omega), if_neg (by omega)]
  · show (if q + 7 ≤ b ∧ b < q + 7 + 32 then (if j = 0 then 1 else 0) else hI (st6 (nw h (.inl 9) 8) q) b j) = _
    rw [if_neg (by omega)]
    simp only [st6, hI_sI, hI_af, hN_af, e1, hI_nw, hn]
    rw [if_neg (by omega), if_neg (by omega), if_neg (by omega), if_neg (by omega), if_neg (by omega), if_neg (by omega), if_neg (by omega), if_neg (by omega), if_neg (by omega)]
  · show (if q + 7 ≤ b ∧ b < q + 7 + 32 then 0 else hL (st6 (nw h (.inl 9) 8) q) b j) = _
    rw [if_neg (by omega)]
    simp only [st6, hL_sI, hL_af, hN_af, e1, hL_nw, hn]
    rw [if_neg (by omega), if_neg (by omega), if_neg (by omega), if_neg (by omega), if_neg (by omega), if_neg (by omega), if_neg (by omega)]
  · show (if q + 7 ≤ b ∧ b < q + 7 + 32 then none else if b = q + 1 ∧ j < 32 then some (q + 7 + j) else hR (st6 (nw h (.inl 9) 8) q) b j) = _
    rw [if_neg (by omega), if_neg (by omega)]
    simp only [st6, hR_sI, hR_af, hN_af, e1, hR_nw, hn]
    repeat rw [if_neg (by omega)]
theorem nwS_ss (hn : hN h = q) : SS (nwS h q) q := by
  have e1 : hN (nw h (.inl 9) 8) = q + 1 := by rw [hN_nw, hn]
  have eK : ∀ b, b < q + 7 → hK (nwS h q) b = hK (st6 (nw h (.inl 9) 8) q) b := fun b hb => by
    show (if q + 7 ≤ b ∧ b < q + 7 + 32 then some (Sum.inl 6) else hK (st6 (nw h (.inl 9) 8) q) b) = _
    rw [if_neg (by omega)]
  have eR : ∀ j, hR (nwS h q) q j = hR (st6 (nw h (.inl 9) 8) q) q j := fun j => by
    show (if q + 7 ≤ q ∧ q < q + 7 + 32 then none else if q = q + 1 ∧ j < 32 then some (q + 7 + j) else hR (st6 (nw h (.inl 9) 8) q) q j) = _
    rw [if_neg (by omega), if_neg (by omega)]
  refine ⟨?_, ?_, ?_, ?_, ?_, ?_, ?_, ?_, ?_, ?_, ?_, ?_, ?_, fun k hk => ?_, fun k hk => ?_⟩
  · rw [eK _ (by omega)]; simp only [st6, hK_sI, hK_af, hN_af, e1, hK_nw, hn]
    rw [if_neg (by omega), if_neg (by omega), if_neg (by omega), if_neg (by omega), if_neg (by omega), if_neg (by omega), if_true]
  · rw [eR]; simp only [st6, hR_sI, hR_af, hN_af, e1, hR_nw, hn]; simp; omega
  · rw [eR]; simp only [st6, hR_sI, hR_af, hN_af, e1, hR_nw, hn]; simp; omega
  · rw [eR]; simp only [st6, hR_sI, hR_af, hN_af, e1, hR_nw, hn]; simp; omega
  · rw [eR]; simp only [st6, hR_sI, hR_af, hN_af, e1, hR_nw, hn]; simp; omega
  · rw [eR]; simp only [st6, hR_sI, hR_af, hN_af, e1, hR_nw, hn]; simp; omega
  · rw [eR]; simp only [st6, hR_sI, hR_af, hN_af, e1, hR_nw, hn]; simp
  · rw [eK _ (by omega)]; simp only [st6, hK_sI, hK_af, hN_af, e1, hK_nw, hn]; simp
  · rw [eK _ (by omega)]; simp only [st6, hK_sI, hK_af, hN_af, e1, hK_nw, hn]; simp
  · rw [eK _ (by omega)]; simp only [st6, hK_sI, hK_af, hN_af, e1, hK_nw, hn]; simp
  · rw [eK _ (by omega)]; simp only [st6, hK_sI, hK_af, hN_af, e1, hK_nw, hn]; simp
  · rw [eK _ (by omega)]; simp only [st6, hK_sI, hK_af, hN_af, e1, hK_nw, hn]; simp
  · rw [eK _ (by omega)]; simp only [st6, hK_sI, hK_af, hN_af, e1, hK_nw, hn]; simp
  · show (if q + 7 ≤ q + 1 ∧ q + 1 < q + 7 + 32 then none else if q + 1 = q + 1 ∧ k < 32 then some (q + 7 + k) else hR (st6 (nw h (.inl 9) 8) q) (q + 1) k) = _
    rw [if_neg (by omega), if_pos ⟨rfl, hk⟩]
  · show (if q + 7 ≤ q + 7 + k ∧ q + 7 + k < q + 7 + 32 then some (Sum.inl 6) else hK (st6 (nw h (.inl 9) 8) q) (q + 7 + k)) = _
    rw [if_pos (by omega)]
end Kp
section K2
variable {h : aH} {x r tl : Nat} {tp : Nat → Nat} {rf : Nat → Int32} {ft fp : Int32} {sd : Nat} {M mem sh : Nat} {ns : Nat → List Nat} {kd : Nat → Nat} {cd : Nat → List Nat} {N : tyN} {sl : Nat → tyN} {nx c cr : Nat} {rn : Nat} {rw_ : Nat → Nat} {on_ : Nat} {ob : Nat → Nat}
def kpS (sl : Nat → tyN) (nx : Nat) (N : tyN) : Nat → tyN := fun k => if k = nx then N else sl k
def kpC (nx cr : Nat) : Nat := if nx < cr then cr else cr + 1
def cD_ok (nx c cr : Nat) : Prop := nx < 20 ∧ nx ≤ cr ∧ cr ≤ 20 ∧ c ≤ 20
theorem keep_base (C : CX h x (r, tl, tp, rf, ft, fp, sd) (M, mem, sh, ns, kd, cd) N (sl, nx, c, cr) (rn, rw_) (on_, ob)) : ∃ hb, f_X2_keep (x + 81) (x + 3) h = f_X2_keep_28 (x + 81) (x + 3) hb ∧ (∀ b, b < x + 175 + 39 * cr → hK hb b = hK h b ∧ ∀ j, hI hb b j = hI h b j ∧ hL hb b j = hL h b j ∧ (¬ (b = x + 82 ∧ j = nx) → hR hb b j = hR h b j)) ∧ hR hb (x + 82) nx = some (x + 175 + 39 * nx) ∧ SS hb (x + 175 + 39 * nx) ∧ hN hb = x + 175 + 39 * kpC nx cr ∧ hS hb ≤ 60000 + 768 * kpC nx cr := by
  have S := C.1
  obtain ⟨d1, d2, d3, d4, d5, d6, d7, d8, d9, d10⟩ := C.2.2.2.2.1
  have c8 : hN h = x + 175 + 39 * cr := C.2.2.2.2.2.2.2.1
  have c9 : hS h ≤ 60000 + 768 * cr := C.2.2.2.2.2.2.2.2
  simp only at d1 d2 d3 d4 d5 d6 d7 d8 d9 d10
  by_cases hc : nx < cr
  · have hr := d3 nx (by omega)
    rw [if_pos hc] at hr
    refine ⟨h, ?_, fun b _ => ⟨rfl, fun j => ⟨rfl, rfl, fun _ => rfl⟩⟩, hr, d4 nx hc, ?_, ?_⟩
    · simp (disch := omega) only [nm, bd_s, ko_K, ka_K, koK_t, kaK_t, kr_s, kn_s, kn_n, hK_sI, hR_sI, hK_sL, hR_sL, hI_sL, hL_sI, hL_sL, hI_sI, hN_sI, hN_sL, ch_G, ch_T, nb_0, nb_1, zb_G, d_T, d_F, d_eT, d_eF, b2i_t, b2i_f, tn_nI, fa_lit, fa_litL, m1_e, nI_add, pk_mul, pk_sub, nI_leI, nI_ltI, nI_eq, le_T, le_F, lt_T, lt_F, eq_T, eq_F, if_pos, if_neg, m1_le, m1_lt', m1_gt, m1_le', m1_eq, m1_qe, b2i_eq0, in_N, in_n, in_I, ↓reduceIte, Bool.true_eq_false, Bool.false_eq_true, reduceCtorEq, decide_eq_true_eq, decide_eq_false_iff_not, Nat.not_lt, Nat.not_le, not_true_eq_false, not_false_eq_true, true_and, and_true, and_self, false_and, and_false, true_or, or_true, false_or, or_false, f_X2_keep, S.k81, S.r81_2, S.k82, d1, hr]
    · unfold kpC; rw [if_pos hc]; exact c8
    · unfold kpC; rw [if_pos hc]; exact c9
  · have hc2 : nx = cr := by omega
    subst hc2
    have hr := d3 nx (by omega)
    rw [if_neg hc] at hr
    have k30 : hK (nw h (.inl 9) 8) (x + 175 + 39 * nx) = some (.inl 9) := by rw [hK_nw, c8, if_pos rfl]
    have si := s_init (h := nw h (.inl 9) 8) (s := x + 175 + 39 * nx) k30 (by rw [hN_nw, c8])
    have lo := fun (b : Nat) (hb : b < x + 175 + 39 * nx) => nwS_lo c8 hb
    have ss := nwS_ss c8
    have fold : stP (st6 (nw h (.inl 9) 8) (x + 175 + 39 * nx)) (x + 175 + 39 * nx) 32 = nwS h (x + 175 + 39 * nx) := rfl
    rw [fold] at si
    have k82 : hK (nwS h (x + 175 + 39 * nx)) (x + 82) = some (.inr (.object RX9, 20)) := (lo (x + 82) (by omega)).1.trans S.k82
    have kq := ss.k
    refine ⟨sR (nwS h (x + 175 + 39 * nx)) (x + 82) nx (some (x + 175 + 39 * nx)), ?_, fun b hb => ⟨(lo b hb).1, fun j => ⟨((lo b hb).2 j).1, ((lo b hb).2 j).2.1, fun q => ?_⟩⟩, ?_, ss.fr (fun _ _ _ => rfl) (fun b b1 b2 j => by rw [hR_sR, if_neg (by omega)]), ?_, ?_⟩
    · simp (disch := omega) only [nm, bd_s, ko_K, ka_K, koK_t, kaK_t, kr_s, kn_s, kn_n, hK_sI, hR_sI, hK_sL, hR_sL, hI_sL, hL_sI, hL_sL, hI_sI, hN_sI, hN_sL, ch_G, ch_T, nb_0, nb_1, zb_G, d_T, d_F, d_eT, d_eF, b2i_t, b2i_f, tn_nI, fa_lit, fa_litL, m1_e, nI_add, pk_mul, pk_sub, nI_leI, nI_ltI, nI_eq, le_T, le_F, lt_T, lt_F, eq_T, eq_F, if_pos, if_neg, m1_le, m1_lt', m1_gt, m1_le', m1_eq, m1_qe, b2i_eq0, in_N, in_n, in_I, ↓reduceIte, Bool.true_eq_false, Bool.false_eq_true, reduceCtorEq, decide_eq_true_eq, decide_eq_false_iff_not, Nat.not_lt, Nat.not_le, not_true_eq_false, not_false_eq_true, true_and, and_true, and_self, false_and, and_false, true_or, or_true, false_or, or_false, f_X2_keep, S.k81, S.r81_2, S.k82, d1, hr, c8, si, k82, kq]
    · rw [hR_sR, if_neg q]; exact ((lo b hb).2 j).2.2
    · rw [hR_sR, if_pos ⟨rfl, rfl⟩]
    · unfold kpC; rw [if_neg hc]
      show hN h + 1 + 1 + 1 + 1 + 1 + 1 + 1 + 32 = _
      rw [c8]; omega
    · unfold kpC; rw [if_neg hc]
      show hS h + 8 + 32 + 32 + 32 + 32 + 120 + 256 + 8 * 32 ≤ _
      omega
theorem CX.keep (C : CX h x (r, tl, tp, rf, ft, fp, sd) (M, mem, sh, ns, kd, cd) N (sl, nx, c, cr) (rn, rw_) (on_, ob)) (n32 : N 256 ≤ 32) (n40 : N 1377 ≤ 40) : ∃ h1, f_X2_keep (x + 81) (x + 3) h = some ((), h1) ∧ CX h1 x (r, tl, tp, rf, ft, fp, sd) (M, mem, sh, ns, kd, cd) N (kpS sl nx N, nx1 nx, min 20 (c + 1), kpC nx cr) (rn, rw_) (on_, ob) ∧ FC x h h1 := by
  obtain ⟨hb, e1, lo, r82, ssq, n8, n9⟩ := keep_base C
  obtain ⟨c1, c2, c3, c4, ⟨d1, d2, d3, d4, d5, d6, d7, d8, d9, d10⟩, c6, c7, c8, c9⟩ := C
  simp only at d1 d2 d3 d4 d5 d6 d7 d8 d9 d10
  have eI : ∀ b, b < x + 175 + 39 * cr → ∀ j, hI hb b j = hI h b j := fun b q j => ((lo b q).2 j).1
  have eK : ∀ b, b < x + 175 + 39 * cr → hK hb b = hK h b := fun b q => (lo b q).1
  have eR : ∀ b, b < x + 175 + 39 * cr → ∀ j, ¬ (b = x + 82 ∧ j = nx) → hR hb b j = hR h b j := fun b q j => ((lo b q).2 j).2.2
  have S1 : XS hb x := c1.fr2 (fun b q => eK b (by omega)) (fun b j q1 q2 => eR b (by omega) j (by omega))
  have R1 : RS hb (x + 3) N := c4.fr (fun b _ _ j => eI b (by omega) j)
  have kq : kpC nx cr ≤ 20 := by unfold kpC; split <;> omega
  have kq2 : nx < kpC nx cr ∧ cr ≤ kpC nx cr := by unfold kpC; split <;> omega
  have st := h_keep28 (h := hb) (y := x + 81) (q := x + 175 + 39 * nx) (s := x + 3) (n := nx) (c := c) S1.k81 S1.r81_2 S1.k82 ((eI _ (by omega) _).trans d1) d6 ((eI _ (by omega) _).trans d2) d10 r82 ssq S1.now (by omega) (by omega) R1.flg
  have kI : ∀ b j, ¬ (x + 175 + 39 * nx ≤ b ∧ b < x + 175 + 39 * nx + 39) → ¬ (b = x + 81 ∧ j < 2) → hI (keepH hb (x + 81) (x + 175 + 39 * nx) (x + 3) nx c) b j = hI hb b j := fun b j q1 q2 => by
    unfold keepH
    rw [hI_sI, if_neg (by omega), hI_sI, if_neg (by omega), hI_cpA, if_neg (by omega), if_neg (by omega), if_neg (by omega), if_neg (by omega), if_neg (by omega)]
  have kI2 : ∀ b j, b < x + 175 → ¬ (b = x + 81 ∧ j < 2) → hI (keepH hb (x + 81) (x + 175 + 39 * nx) (x + 3) nx c) b j = hI h b j := fun b j q1 q2 => (kI b j (by omega) q2).trans (eI b (by omega) j)
  refine ⟨_, e1.trans st, ⟨S1.of rfl rfl, c2.fr (fun b _ _ j => kI2 b j (by omega) (by omega)) ((lo x (by omega)).2 16).2.1, c3.fr (fun b _ _ j => kI2 b j (by omega) (by omega)) (eR x (by omega) 9 (by omega)) (eR x (by omega) 10 (by omega)), c4.fr (fun b _ _ j => kI2 b j (by omega) (by omega)), ⟨?_, ?_, ?_, ?_, ?_, ?_, ?_, kq, ?_, ?_⟩, c6.fr (kI2 _ _ (by omega) (by omega)) (fun b _ _ j => kI2 b j (by omega) (by omega)), c7.fr (fun b _ _ j => kI2 b j (by omega) (by omega)), n8, n9⟩, ?_⟩
  · unfold keepH; rw [hI_sI, if_neg (by omega), hI_sI, if_pos ⟨rfl, rfl⟩]
  · unfold keepH; rw [hI_sI, if_pos ⟨rfl, rfl⟩]
  · intro k hk
    show hR hb (x + 82) k = if k < kpC nx cr then some (x + 175 + 39 * k) else none
    by_cases ck : k = nx
    · subst ck; rw [if_pos kq2.1]; exact r82
    · rw [eR _ (by omega) k (by omega), d3 k hk]
      by_cases ck2 : k < cr
      · rw [if_pos ck2, if_pos (by have := kq2.2; omega)]
      · rw [if_neg ck2, if_neg (by unfold kpC; split <;> omega)]
  · intro k hk
    show SS _ (x + 175 + 39 * k)
    by_cases ck : k = nx
    · subst ck; exact ssq.of rfl rfl
    · have ck2 : k < cr := by have hk' : k < kpC nx cr := hk; unfold kpC at hk'; split at hk' <;> omega
      exact (d4 k ck2).fr (fun b _ _ => eK b (by omega)) (fun b _ _ j => eR b (by omega) j (by omega))
  · intro k hk
    show RS _ (x + 175 + 39 * k) (kpS sl nx N k)
    unfold kpS
    by_cases ck : k = nx
    · subst ck
      rw [if_pos rfl]
      have := R1.cp n32 n40 (q := x + 175 + 39 * k) (by omega)
      exact this.fr (fun b _ _ j => by unfold keepH; rw [hI_sI, if_neg (by omega), hI_sI, if_neg (by omega)])
    · rw [if_neg ck]
      have ck2 : k < cr := by have hk' : k < kpC nx cr := hk; unfold kpC at hk'; split at hk' <;> omega
      exact (d5 k ck2).fr (fun b b1 b2 j => (kI b j (by omega) (by omega)).trans (eI b (by omega) j))
  · show nx1 nx < 20
    unfold nx1; split <;> omega
  · show nx1 nx ≤ kpC nx cr
    unfold nx1; split <;> omega
  · show min 20 (c + 1) ≤ nx1 nx ∨ kpC nx cr = 20
    unfold nx1 kpC; split <;> split <;> omega
  · exact Nat.min_le_left _ _
  · intro b b1 b2
    exact ⟨eK b (by omega), fun j => ⟨kI2 b j (by omega) (by omega), ((lo b (by omega)).2 j).2.1, eR b (by omega) j (by omega)⟩⟩
theorem CM.keep (Q : CM h (x + 107) (r, tl, tp, rf, ft, fp, sd) (M, mem, sh, ns, kd, cd) N (sl, nx, c, cr) (rn, rw_) (on_, ob)) (C : cD_ok nx c cr) : ∃ h1, f_X12_keeps (x + 107) h = some ((), h1) ∧ CM h1 (x + 107) (r, tl, tp, rf, ft, fp, sd) (M, mem, sh, ns, kd, cd) N (kpS sl nx N, nx1 nx, min 20 (c + 1), kpC nx cr) (rn, rw_) (on_, ob) ∧ FM x h h1 := by
  obtain ⟨o1, o2, o3, o4⟩ := C
  obtain ⟨c1, c2, c3, c4, ⟨d1, d2, d3⟩, c6, c7, c8⟩ := Q
  simp only at d1 d2 d3
  have st := m_keeps c1 d2 o1 d1 o4
  have kI : ∀ b j, ¬ (b = x + 107 + 38) → ¬ (b = x + 107 ∧ (j = 63 ∨ j = 64)) → hI (kpM h (x + 107) nx c) b j = hI h b j := fun b j q1 q2 => by
    unfold kpM; rw [hI_sI, if_neg (by omega), hI_fb, if_neg (by omega), hI_sI, if_neg (by omega)]
  refine ⟨_, st, ⟨c1.of rfl rfl, c2.fr (fun b j q => kI b j (by omega) (by omega)) rfl, c3.fr (fun b j q => kI b j (by omega) (by omega)) (fun _ _ => rfl), fun j hj => (kI _ j (by omega) (by omega)).trans (c4 j hj), ⟨?_, ?_, ?_⟩, c6.fr (fun b j q => kI b j (by omega) (by omega)), c7.fr (fun b j q => kI b j (by omega) (by omega)), c8.fr (fun b j q => kI b j (by omega) (by omega))⟩, ?_⟩
  · unfold kpM; rw [hI_sI, if_pos ⟨rfl, rfl⟩]
  · unfold kpM; rw [hI_sI, if_neg (by omega), hI_fb, if_neg (by omega), hI_sI, if_pos ⟨rfl, rfl⟩]
    show nI ((nx + 1) % 20) = nI (nx1 nx)
    unfold nx1
    split
    · rw [Nat.mod_eq_of_lt (by omega)]
    · rw [show (nx + 1) % 20 = 0 by omega]
  · intro k hk j hj
    show hI (kpM h (x + 107) nx c) (x + 107 + 38) (1498 * ((k + 1) % 20) + j) = mN (kpS sl nx N k) j
    unfold kpM kpS
    rw [hI_sI, if_neg (by omega), hI_fb]
    by_cases ck : k = nx
    · subst ck
      rw [if_pos ⟨rfl, by omega, by omega⟩, if_pos rfl, show 1498 * ((k + 1) % 20) + j - 1498 * ((k + 1) % 20) = j by omega]
      exact c4 j hj
    · have ck2 : k < cr := by have hk' : k < kpC nx cr := hk; unfold kpC at hk'; split at hk' <;> omega
      rw [if_neg (by omega), if_neg ck, hI_sI, if_neg (by omega)]
      exact d3 k ck2 j hj
  · exact ((FM.sI (by omega) (by omega)).trans (FM.fb (by omega) (by omega))).trans (FM.sI (by omega) (by omega))
theorem CX.dok (C : CX h x (r, tl, tp, rf, ft, fp, sd) (M, mem, sh, ns, kd, cd) N (sl, nx, c, cr) (rn, rw_) (on_, ob)) : cD_ok nx c cr := by
  obtain ⟨d1, d2, d3, d4, d5, d6, d7, d8, d9, d10⟩ := C.2.2.2.2.1
  exact ⟨d6, d7, d8, d10⟩
theorem Ok.keep (O : Ok (r, tl, tp, rf, ft, fp, sd) (M, mem, sh, ns, kd, cd) N (sl, nx, c, cr) (rn, rw_) (on_, ob)) (hr : r = 1) (cd0 : cD_ok nx c cr) : okD M mem sh (kpS sl nx N) (nx1 nx) (min 20 (c + 1)) := by
  obtain ⟨o1, o2, o3, o4⟩ := cd0
  obtain ⟨-, okb, okn, okd⟩ := O.cs.resolve_left (fun q => by omega)
  intro i hi
  unfold kpS
  by_cases c0 : (nx1 nx + 19 - i) % 20 = nx
  · rw [if_pos c0]; exact okn
  · rw [if_neg c0]
    have hi0 : i ≠ 0 := by
      rintro rfl
      apply c0
      unfold nx1; split <;> omega
    have := okd (i - 1) (by omega)
    rw [show (nx1 nx + 19 - i) % 20 = (nx + 19 - (i - 1)) % 20 by unfold nx1; split <;> omega]
    exact this
end K2
