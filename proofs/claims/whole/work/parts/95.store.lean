/-! bytes within words; store -/
def bI (x : Int32) (i : Nat) : Bool := x.toBitVec.getLsbD i
theorem bI_ext {x y : Int32} (h : ∀ i, i < 32 → bI x i = bI y i) : x = y := Int32.toBitVec_inj.mp (BitVec.eq_of_getLsbD_eq (fun i hi => h i hi))
theorem bI_or (x y : Int32) (i : Nat) : bI (x ||| y) i = (bI x i || bI y i) := by unfold bI; rw [Int32.toBitVec_or, BitVec.getLsbD_or]
theorem bI_and (x y : Int32) (i : Nat) : bI (x &&& y) i = (bI x i && bI y i) := by unfold bI; rw [Int32.toBitVec_and, BitVec.getLsbD_and]
theorem bI_xor (x y : Int32) (i : Nat) : bI (x ^^^ y) i = (bI x i ^^ bI y i) := by unfold bI; rw [Int32.toBitVec_xor, BitVec.getLsbD_xor]
theorem bI_m1 : ∀ i, i < 32 → bI (-nI 1) i = true := by decide +kernel
theorem bI_255 : ∀ i, i < 32 → bI (nI 255) i = decide (i < 8) := by decide +kernel
theorem bI_shl {k : Nat} (hk : k < 32) (x : Int32) {i : Nat} (hi : i < 32) : bI (x <<< (nI k &&& nI 31)) i = (decide (k ≤ i) && bI x (i - k)) := by
  have e := pk_shl x (nI k &&& nI 31) k (sh_amt hk)
  unfold bI
  show (x <<< (nI k &&& nI 31)).toBitVec.toNat.testBit i = (decide (k ≤ i) && x.toBitVec.toNat.testBit (i - k))
  rw [e, Nat.testBit_mod_two_pow, decide_eq_true hi, Bool.true_and, ← Nat.shiftLeft_eq, Nat.testBit_shiftLeft]
theorem bI_shr {k : Nat} (hk : k < 32) (x : Int32) {i : Nat} (hi : k + i < 32) : bI (x >>> (nI k &&& nI 31)) i = bI x (k + i) := by
  have e := pk_shr x (nI k &&& nI 31) k (sh_amt hk)
  have e2 : (x >>> (nI k &&& nI 31)).toBitVec = x.toBitVec.sshiftRight k := BitVec.eq_of_toInt_eq (by rw [BitVec.toInt_sshiftRight]; exact e)
  unfold bI
  rw [e2, BitVec.getLsbD_sshiftRight]
  simp only [show ¬ 32 ≤ i by omega, decide_false, Bool.not_false, Bool.true_and]
  rw [if_pos (by omega)]
def wdI (w : Int32) (i : Nat) (v : Int32) : Int32 := (w &&& ((nI 255 <<< (nI (8 * i) &&& nI 31)) ^^^ -nI 1)) ||| ((v &&& nI 255) <<< (nI (8 * i) &&& nI 31))
theorem wd_by (w : Int32) {i j v : Nat} (hi : i < 4) (hj : j < 4) (hv : v < 256) : (wdI w i (nI v) >>> (nI (8 * j) &&& nI 31)) &&& nI 255 = if i = j then nI v else (w >>> (nI (8 * j) &&& nI 31)) &&& nI 255 := by
  have vm : nI v &&& nI 255 = nI v := by rw [an_255, Nat.mod_eq_of_lt hv]
  apply bI_ext
  intro b hb
  rw [bI_and, bI_255 b hb]
  by_cases c : b < 8
  · rw [decide_eq_true c, Bool.and_true, bI_shr (by omega) _ (by omega)]
    unfold wdI
    rw [bI_or, bI_and, bI_xor, bI_m1 _ (by omega), bI_shl (by omega) _ (by omega), bI_shl (by omega) _ (by omega), bI_255 _ (by omega), vm]
    by_cases ij : i = j
    · subst ij
      rw [if_pos rfl, decide_eq_true (show 8 * i ≤ 8 * i + b by omega), decide_eq_true (show 8 * i + b - 8 * i < 8 by omega), show 8 * i + b - 8 * i = b by omega]
      simp
    · rw [if_neg ij, bI_and, bI_255 b hb, decide_eq_true c, Bool.and_true, bI_shr (by omega) _ (by omega)]
      by_cases lt : i < j
      · rw [decide_eq_false (show ¬ 8 * j + b - 8 * i < 8 by omega)]
        have : bI (nI v) (8 * j + b - 8 * i) = false := by
          rw [← vm, bI_and, bI_255 _ (by omega), decide_eq_false (by omega), Bool.and_false]
        rw [this]
        simp
      · rw [decide_eq_false (show ¬ 8 * i ≤ 8 * j + b by omega)]
        simp
  · rw [decide_eq_false c, Bool.and_false]
    by_cases ij : i = j
    · rw [if_pos ij, ← vm, bI_and, bI_255 b hb, decide_eq_false c, Bool.and_false]
    · rw [if_neg ij, bI_and, bI_255 b hb, decide_eq_false c, Bool.and_false]
section St
variable {h : aH} {x r tl : Nat} {tp : Nat → Nat} {rf : Nat → Int32} {ft fp : Int32} {sd : Nat} {M mem sh : Nat} {ns : Nat → List Nat} {kd : Nat → Nat} {cd : Nat → List Nat} {N : tyN} {sl : Nat → tyN} {nx c cr : Nat} {rn : Nat} {rw_ : Nat → Nat} {on_ : Nat} {ob : Nat → Nat}
theorem okN.mm {N' : tyN} (q : okN M mem sh N) (ho : ∀ j, ¬ (353 ≤ j ∧ j < 1377) → N' j = N j) (hm : ∀ a, a < 1024 → N' (353 + a) ≤ 255) : okN M mem sh N' := by
  obtain ⟨q1, q2, q3, q4, q5, q6, q7, q8, q9⟩ := q
  have e256 : N' 256 = N 256 := ho _ (by omega)
  refine ⟨fun j => ?_, fun i hi => ?_, fun i hi => ?_, fun i h1 h2 => ?_, ?_, ?_, fun i hi => ?_, ?_, hm⟩
  · by_cases c1 : 353 ≤ j ∧ j < 1377
    · have := hm (j - 353) (by omega)
      rw [show 353 + (j - 353) = j by omega] at this
      omega
    · rw [ho j c1]; exact q1 j
  · have := q2 i hi
    unfold okP at this ⊢
    rw [ho _ (by omega), ho _ (by omega), ho _ (by omega), ho _ (by omega), ho _ (by omega), ho _ (by omega), ho _ (by omega)]
    exact this
  · rw [ho _ (by omega)]; exact q3 i hi
  · rw [ho _ (by omega)]; exact q4 i h1 h2
  · rw [e256]; exact q5
  · rw [e256]
    intro g hg
    have := q6 g hg
    have eB : ∀ i, i < N 256 → N' (257 + 3 * i) = N (257 + 3 * i) := fun i hi => ho _ (by omega)
    have eL : ∀ i, i < N 256 → N' (258 + 3 * i) = N (258 + 3 * i) := fun i hi => ho _ (by omega)
    unfold gst gen_ at this ⊢
    by_cases c0 : g = 0
    · rw [if_pos c0] at this ⊢
      by_cases c1 : g < N 256
      · rw [if_pos c1] at this ⊢; show 16 ≤ N' (257 + 3 * g); rw [eB g c1]; exact this
      · rw [if_neg c1] at this ⊢; exact this
    · rw [if_neg c0] at this ⊢
      show N' (257 + 3 * (g - 1)) + N' (258 + 3 * (g - 1)) ≤ _
      rw [eB _ (by omega), eL _ (by omega)]
      by_cases c1 : g < N 256
      · rw [if_pos c1] at this ⊢; show _ ≤ N' (257 + 3 * g); rw [eB g c1]; exact this
      · rw [if_neg c1] at this ⊢; exact this
  · rw [e256] at hi
    rw [ho _ (by omega), ho _ (by omega)]; exact q7 i hi
  · rw [ho _ (by omega)]; exact q8
theorem RS.mm {s : Nat} {h1 : aH} {N' : tyN} (R : RS h s N) (n32 : N 256 ≤ 32) (e : ∀ q, s ≤ q → q < s + 39 → ¬ q = s + 6 → ∀ j, hI h1 q j = hI h q j) (ho : ∀ j, ¬ (353 ≤ j ∧ j < 1377) → N' j = N j) (hm : ∀ a, a < 1024 → byP h1 (s + 6) a = nI (N' (353 + a))) : RS h1 s N' := by
  obtain ⟨r1, r2, r3, r4, r5, r6⟩ := R
  refine ⟨fun i hi => ?_, ?_, fun i h1 h2 => ?_, ?_, fun i h1 h2 => ?_, hm⟩
  · have := (r1 i hi).fr (h1 := h1) (fun j _ => e _ (by omega) (by omega) (by omega) j)
    unfold PS at this ⊢
    rw [ho _ (by omega), ho _ (by omega), ho _ (by omega), ho _ (by omega), ho _ (by omega), ho _ (by omega), ho _ (by omega)]
    exact this
  · rw [e _ (by omega) (by omega) (by omega), ho _ (by omega)]; exact r2
  · rw [ho _ (by omega)] at h1
    rw [e _ (by omega) (by omega) (by omega), e _ (by omega) (by omega) (by omega), e _ (by omega) (by omega) (by omega), ho _ (by omega), ho _ (by omega), ho _ (by omega)]
    exact r3 i h1 h2
  · rw [e _ (by omega) (by omega) (by omega), ho _ (by omega)]; exact r4
  · rw [ho _ (by omega)] at h1
    rw [e _ (by omega) (by omega) (by omega), ho _ (by omega)]; exact r5 i h1 h2
theorem CX.by (C : CX h x (r, tl, tp, rf, ft, fp, sd) (M, mem, sh, ns, kd, cd) N (sl, nx, c, cr) (rn, rw_) (on_, ob)) (n32 : N 256 ≤ 32) {a v : Nat} (ha : a < 1024) (hv : v < 256) : f_X9_setByte (x + 3) (nI a) (nI v) h = some ((), sI h (x + 3 + 6) (a / 4) (wdI (hI h (x + 3 + 6) (a / 4)) (a % 4) (nI v))) ∧ CX (sI h (x + 3 + 6) (a / 4) (wdI (hI h (x + 3 + 6) (a / 4)) (a % 4) (nI v))) x (r, tl, tp, rf, ft, fp, sd) (M, mem, sh, ns, kd, cd) (updN N (353 + a) v) (sl, nx, c, cr) (rn, rw_) (on_, ob) ∧ FC x h (sI h (x + 3 + 6) (a / 4) (wdI (hI h (x + 3 + 6) (a / 4)) (a % 4) (nI v))) := by
  have W := C.1.now
  refine ⟨?_, C.nc1 (FX.sI (by unfold NC; omega)) rfl rfl (C.2.2.2.1.mm n32 (fun q _ _ z j => by rw [hI_sI, if_neg (by omega)]) (fun j z => updN_o (by omega)) (fun b hb => ?_))⟩
  · have e4 : a / 2 ^ 2 = a / 4 := rfl
    simp (disch := omega) only [nm, bd_s, ko_K, ka_K, koK_t, kaK_t, kr_s, kn_s, kn_n, hK_sI, hR_sI, hK_sL, hR_sL, hI_sL, hL_sI, hL_sL, hI_sI, hN_sI, hN_sL, ch_G, ch_T, nb_0, nb_1, zb_G, d_T, d_F, d_eT, d_eF, b2i_t, b2i_f, tn_nI, fa_lit, fa_litL, m1_e, nI_add, pk_mul, pk_sub, nI_leI, nI_ltI, nI_eq, le_T, le_F, lt_T, lt_F, eq_T, eq_F, if_pos, if_neg, m1_le, m1_lt', m1_gt, m1_le', m1_eq, m1_qe, b2i_eq0, in_N, in_n, in_I, ↓reduceIte, Bool.true_eq_false, Bool.false_eq_true, reduceCtorEq, decide_eq_true_eq, decide_eq_false_iff_not, Nat.not_lt, Nat.not_le, not_true_eq_false, not_false_eq_true, true_and, and_true, and_self, false_and, and_false, true_or, or_true, false_or, or_false, f_X9_setByte_11, f_X9_setByte, W.k, W.r5, W.k6, sr_nI, an_3, e4]
    rfl
  · have r6 := C.2.2.2.1.2.2.2.2.2 b hb
    have wb := wd_by (hI h (x + 3 + 6) (a / 4)) (i := a % 4) (j := b % 4) (v := v) (by omega) (by omega) hv
    unfold byP at r6 ⊢
    rw [hI_sI]
    by_cases c1 : b / 4 = a / 4
    · rw [if_pos ⟨rfl, c1⟩]
      refine wb.trans ?_
      by_cases c2 : a % 4 = b % 4
      · rw [if_pos c2, show 353 + b = 353 + a by omega, updN_s]
      · rw [if_neg c2, updN_o (by omega), ← r6, c1]
        rfl
    · rw [if_neg (by omega), updN_o (by omega)]
      exact r6
theorem S_store (C : CX h x (r, tl, tp, rf, ft, fp, sd) (M, mem, sh, ns, kd, cd) N (sl, nx, c, cr) (rn, rw_) (on_, ob)) (Q : CM h (x + 107) (r, tl, tp, rf, ft, fp, sd) (M, mem, sh, ns, kd, cd) N (sl, nx, c, cr) (rn, rw_) (on_, ob)) (O : Ok (r, tl, tp, rf, ft, fp, sd) (M, mem, sh, ns, kd, cd) N (sl, nx, c, cr) (rn, rw_) (on_, ob)) (p w : Int32) : SM Int32 x h (f_X11_store x p w) (f_X12_store (x + 107) p w) := by
  have S := C.1
  have dn := c_deny (k := 5) S (by omega)
  rcases pk_ix w (n := 256) (by omega) with hw | hw | ⟨v, hv, rfl⟩
  · refine glueR (k := 5) (v := nI 0) C Q O (by omega) ?_ (fun g1 Q1 => ?_)
    · simp (disch := omega) only [nm, bd_s, ko_K, ka_K, koK_t, kaK_t, kr_s, kn_s, kn_n, hK_sI, hR_sI, hK_sL, hR_sL, hI_sL, hL_sI, hL_sL, hI_sI, hN_sI, hN_sL, ch_G, ch_T, nb_0, nb_1, zb_G, d_T, d_F, d_eT, d_eF, b2i_t, b2i_f, tn_nI, fa_lit, fa_litL, m1_e, nI_add, pk_mul, pk_sub, nI_leI, nI_ltI, nI_eq, le_T, le_F, lt_T, lt_F, eq_T, eq_F, if_pos, if_neg, m1_le, m1_lt', m1_gt, m1_le', m1_eq, m1_qe, b2i_eq0, in_N, in_n, in_I, ↓reduceIte, Bool.true_eq_false, Bool.false_eq_true, reduceCtorEq, decide_eq_true_eq, decide_eq_false_iff_not, Nat.not_lt, Nat.not_le, not_true_eq_false, not_false_eq_true, true_and, and_true, and_self, false_and, and_false, true_or, or_true, false_or, or_false, f_X11_store_20, f_X11_store, S.k0, ng_lt' hw, ng_le' hw, ng_le hw, ng_lt hw, ng_eq hw, ng_qe hw, in_g hw, in_gN hw, dn]
    · have T1 := Q1.1
      have rfm := m_isRefused (k := 5) T1 (by omega)
      simp (disch := omega) only [nm, bd_s, ko_K, ka_K, koK_t, kaK_t, kr_s, kn_s, kn_n, hK_sI, hR_sI, hK_sL, hR_sL, hI_sL, hL_sI, hL_sL, hI_sI, hN_sI, hN_sL, ch_G, ch_T, nb_0, nb_1, zb_G, d_T, d_F, d_eT, d_eF, b2i_t, b2i_f, tn_nI, fa_lit, fa_litL, m1_e, nI_add, pk_mul, pk_sub, nI_leI, nI_ltI, nI_eq, le_T, le_F, lt_T, lt_F, eq_T, eq_F, if_pos, if_neg, m1_le, m1_lt', m1_gt, m1_le', m1_eq, m1_qe, b2i_eq0, in_N, in_n, in_I, ↓reduceIte, Bool.true_eq_false, Bool.false_eq_true, reduceCtorEq, decide_eq_true_eq, decide_eq_false_iff_not, Nat.not_lt, Nat.not_le, not_true_eq_false, not_false_eq_true, true_and, and_true, and_self, false_and, and_false, true_or, or_true, false_or, or_false, f_X12_store_21, f_X12_store, T1.k, ng_lt' hw, ng_le' hw, ng_le hw, ng_lt hw, ng_eq hw, ng_qe hw, in_g hw, in_gN hw, rfm]
  · refine glueR (k := 5) (v := nI 0) C Q O (by omega) ?_ (fun g1 Q1 => ?_)
    · simp (disch := omega) only [nm, bd_s, ko_K, ka_K, koK_t, kaK_t, kr_s, kn_s, kn_n, hK_sI, hR_sI, hK_sL, hR_sL, hI_sL, hL_sI, hL_sL, hI_sI, hN_sI, hN_sL, ch_G, ch_T, nb_0, nb_1, zb_G, d_T, d_F, d_eT, d_eF, b2i_t, b2i_f, tn_nI, fa_lit, fa_litL, m1_e, nI_add, pk_mul, pk_sub, nI_leI, nI_ltI, nI_eq, le_T, le_F, lt_T, lt_F, eq_T, eq_F, if_pos, if_neg, m1_le, m1_lt', m1_gt, m1_le', m1_eq, m1_qe, b2i_eq0, in_N, in_n, in_I, ↓reduceIte, Bool.true_eq_false, Bool.false_eq_true, reduceCtorEq, decide_eq_true_eq, decide_eq_false_iff_not, Nat.not_lt, Nat.not_le, not_true_eq_false, not_false_eq_true, true_and, and_true, and_self, false_and, and_false, true_or, or_true, false_or, or_false, f_X11_store_20, f_X11_store, S.k0, bg_lt hw, bg_gt hw, dn]
    · have T1 := Q1.1
      have rfm := m_isRefused (k := 5) T1 (by omega)
      simp (disch := omega) only [nm, bd_s, ko_K, ka_K, koK_t, kaK_t, kr_s, kn_s, kn_n, hK_sI, hR_sI, hK_sL, hR_sL, hI_sL, hL_sI, hL_sL, hI_sI, hN_sI, hN_sL, ch_G, ch_T, nb_0, nb_1, zb_G, d_T, d_F, d_eT, d_eF, b2i_t, b2i_f, tn_nI, fa_lit, fa_litL, m1_e, nI_add, pk_mul, pk_sub, nI_leI, nI_ltI, nI_eq, le_T, le_F, lt_T, lt_F, eq_T, eq_F, if_pos, if_neg, m1_le, m1_lt', m1_gt, m1_le', m1_eq, m1_qe, b2i_eq0, in_N, in_n, in_I, ↓reduceIte, Bool.true_eq_false, Bool.false_eq_true, reduceCtorEq, decide_eq_true_eq, decide_eq_false_iff_not, Nat.not_lt, Nat.not_le, not_true_eq_false, not_false_eq_true, true_and, and_true, and_self, false_and, and_false, true_or, or_true, false_or, or_false, f_X12_store_21, f_X12_store, T1.k, in_bN hw, rfm]
  · by_cases hp : r = 1 ∧ ∃ k, k < 16 ∧ p = nI k
    · obtain ⟨hr, k, hk, rfl⟩ := hp
      obtain ⟨h1, e1, C1, F1⟩ := c_follow C O hr hk (Or.inr rfl)
      have S1 := C1.1
      by_cases fz : foB M mem N cd k 2 = true
      · rw [fz, b2i_t] at e1
        have am : N (8 * k + 1) < mem := by
          unfold foB at fz
          simp only [Bool.and_eq_true, decide_eq_true_eq] at fz
          exact fz.2.2.1
        have mm := (O.okb hr).2.2.2.1
        have okn := O.okn hr
        have fl := okn.fl hk
        obtain ⟨n1, n2, n3⟩ := O.n0
        obtain ⟨h2, e2, C2, F2⟩ := C1.keep n2 n1
        have S2 := C2.1
        have W2 := S2.now
        obtain ⟨e3, C3, F3⟩ := C2.by (n32 := okn.2.2.2.2.1) (a := N (8 * k + 1)) (v := v) (by omega) hv
        refine glue Q (v := nI 1) ⟨_, ?_, C3, (F1.trans F2).trans F3⟩ (fun g Q0 => ?_) ?_
        · have p2 := (C2.2.2.2.1.cl (show k < 32 by omega) fl).2.2.1
          generalize sI h2 (x + 3 + 6) (N (8 * k + 1) / 4) (wdI (hI h2 (x + 3 + 6) (N (8 * k + 1) / 4)) (N (8 * k + 1) % 4) (nI v)) = h3 at *
          simp (disch := omega) only [nm, bd_s, ko_K, ka_K, koK_t, kaK_t, kr_s, kn_s, kn_n, hK_sI, hR_sI, hK_sL, hR_sL, hI_sL, hL_sI, hL_sL, hI_sI, hN_sI, hN_sL, ch_G, ch_T, nb_0, nb_1, zb_G, d_T, d_F, d_eT, d_eF, b2i_t, b2i_f, tn_nI, fa_lit, fa_litL, m1_e, nI_add, pk_mul, pk_sub, nI_leI, nI_ltI, nI_eq, le_T, le_F, lt_T, lt_F, eq_T, eq_F, if_pos, if_neg, m1_le, m1_lt', m1_gt, m1_le', m1_eq, m1_qe, b2i_eq0, in_N, in_n, in_I, ↓reduceIte, Bool.true_eq_false, Bool.false_eq_true, reduceCtorEq, decide_eq_true_eq, decide_eq_false_iff_not, Nat.not_lt, Nat.not_le, not_true_eq_false, not_false_eq_true, true_and, and_true, and_self, false_and, and_false, true_or, or_true, false_or, or_false, f_X11_store_20, f_X11_store, S.k0, e1, S1.k0, S1.r0_2, S1.r0_4, S1.k81, e2, S2.k0, S2.r0_2, W2.k, W2.r0, W2.k1, W2.rp, W2.kp, p2, e3]
        · obtain ⟨g1, e4, Q1, F4⟩ := m_follow Q0 O hr hk (Or.inr rfl)
          rw [fz, b2i_t] at e4
          obtain ⟨g2, e5, Q2, F5⟩ := Q1.keep C.dok
          have T0 := Q0.1
          have T1 := Q1.1
          have T2 := Q2.1
          have q1 := (Q2.q (show k < 32 by omega) fl).2.1
          obtain ⟨Q3, F6⟩ := Q2.u1 (a := 353 + N (8 * k + 1)) (v := v) (by omega) (by omega)
          refine ⟨_, ?_, Q3, (F4.trans F5).trans F6⟩
          simp (disch := omega) only [nm, bd_s, ko_K, ka_K, koK_t, kaK_t, kr_s, kn_s, kn_n, hK_sI, hR_sI, hK_sL, hR_sL, hI_sL, hL_sI, hL_sL, hI_sI, hN_sI, hN_sL, ch_G, ch_T, nb_0, nb_1, zb_G, d_T, d_F, d_eT, d_eF, b2i_t, b2i_f, tn_nI, fa_lit, fa_litL, m1_e, nI_add, pk_mul, pk_sub, nI_leI, nI_ltI, nI_eq, le_T, le_F, lt_T, lt_F, eq_T, eq_F, if_pos, if_neg, m1_le, m1_lt', m1_gt, m1_le', m1_eq, m1_qe, b2i_eq0, in_N, in_n, in_I, ↓reduceIte, Bool.true_eq_false, Bool.false_eq_true, reduceCtorEq, decide_eq_true_eq, decide_eq_false_iff_not, Nat.not_lt, Nat.not_le, not_true_eq_false, not_false_eq_true, true_and, and_true, and_self, false_and, and_false, true_or, or_true, false_or, or_false, f_X12_store_21, f_X12_store, T0.k, e4, T1.k, e5, T2.k, T2.r47, T2.k47, q1]
        · have okd := O.keep hr C.dok
          have okb' := O.okb hr
          obtain ⟨o1, o2, o3, -⟩ := O
          exact ⟨o1, o2, o3, Or.inr ⟨hr, okb', okn.mm (fun j z => updN_o (by omega)) (fun a ha => by
            by_cases z : a = N (8 * k + 1)
            · rw [z, updN_s]; omega
            · rw [updN_o (by omega)]; exact okn.2.2.2.2.2.2.2.2 a ha), okd⟩⟩
      · rw [ts_nt fz, b2i_f] at e1
        obtain ⟨C2, F2⟩ := C1.rfd (k := 5) (by omega)
        have dn := c_deny (k := 5) S1 (by omega)
        refine glue Q (v := nI 0) ⟨_, ?_, C2, F1.trans F2⟩ (fun g Q0 => ?_) O.rfd
        · simp (disch := omega) only [nm, bd_s, ko_K, ka_K, koK_t, kaK_t, kr_s, kn_s, kn_n, hK_sI, hR_sI, hK_sL, hR_sL, hI_sL, hL_sI, hL_sL, hI_sI, hN_sI, hN_sL, ch_G, ch_T, nb_0, nb_1, zb_G, d_T, d_F, d_eT, d_eF, b2i_t, b2i_f, tn_nI, fa_lit, fa_litL, m1_e, nI_add, pk_mul, pk_sub, nI_leI, nI_ltI, nI_eq, le_T, le_F, lt_T, lt_F, eq_T, eq_F, if_pos, if_neg, m1_le, m1_lt', m1_gt, m1_le', m1_eq, m1_qe, b2i_eq0, in_N, in_n, in_I, ↓reduceIte, Bool.true_eq_false, Bool.false_eq_true, reduceCtorEq, decide_eq_true_eq, decide_eq_false_iff_not, Nat.not_lt, Nat.not_le, not_true_eq_false, not_false_eq_true, true_and, and_true, and_self, false_and, and_false, true_or, or_true, false_or, or_false, f_X11_store_20, f_X11_store, S.k0, e1, S1.k0, dn]
        · obtain ⟨g1, e2, Q1, F3⟩ := m_follow Q0 O hr hk (Or.inr rfl)
          rw [ts_nt fz, b2i_f] at e2
          have T0 := Q0.1
          have T1 := Q1.1
          have rfm := m_isRefused (k := 5) T1 (by omega)
          obtain ⟨Q2, F4⟩ := Q1.rfd (k := 5) (by omega)
          refine ⟨_, ?_, Q2, F3.trans F4⟩
          simp (disch := omega) only [nm, bd_s, ko_K, ka_K, koK_t, kaK_t, kr_s, kn_s, kn_n, hK_sI, hR_sI, hK_sL, hR_sL, hI_sL, hL_sI, hL_sL, hI_sI, hN_sI, hN_sL, ch_G, ch_T, nb_0, nb_1, zb_G, d_T, d_F, d_eT, d_eF, b2i_t, b2i_f, tn_nI, fa_lit, fa_litL, m1_e, nI_add, pk_mul, pk_sub, nI_leI, nI_ltI, nI_eq, le_T, le_F, lt_T, lt_F, eq_T, eq_F, if_pos, if_neg, m1_le, m1_lt', m1_gt, m1_le', m1_eq, m1_qe, b2i_eq0, in_N, in_n, in_I, ↓reduceIte, Bool.true_eq_false, Bool.false_eq_true, reduceCtorEq, decide_eq_true_eq, decide_eq_false_iff_not, Nat.not_lt, Nat.not_le, not_true_eq_false, not_false_eq_true, true_and, and_true, and_self, false_and, and_false, true_or, or_true, false_or, or_false, f_X12_store_21, f_X12_store, T0.k, e2, T1.k, rfm]
    · have c1 := C.np O hp
      refine glueR (k := 5) (v := nI 0) C Q O (by omega) ?_ (fun g1 Q1 => ?_)
      · simp (disch := omega) only [nm, bd_s, ko_K, ka_K, koK_t, kaK_t, kr_s, kn_s, kn_n, hK_sI, hR_sI, hK_sL, hR_sL, hI_sL, hL_sI, hL_sL, hI_sI, hN_sI, hN_sL, ch_G, ch_T, nb_0, nb_1, zb_G, d_T, d_F, d_eT, d_eF, b2i_t, b2i_f, tn_nI, fa_lit, fa_litL, m1_e, nI_add, pk_mul, pk_sub, nI_leI, nI_ltI, nI_eq, le_T, le_F, lt_T, lt_F, eq_T, eq_F, if_pos, if_neg, m1_le, m1_lt', m1_gt, m1_le', m1_eq, m1_qe, b2i_eq0, in_N, in_n, in_I, ↓reduceIte, Bool.true_eq_false, Bool.false_eq_true, reduceCtorEq, decide_eq_true_eq, decide_eq_false_iff_not, Nat.not_lt, Nat.not_le, not_true_eq_false, not_false_eq_true, true_and, and_true, and_self, false_and, and_false, true_or, or_true, false_or, or_false, f_X11_store_20, f_X11_store, f_X11_canFollow_88, f_X11_canFollow_87, f_X11_canFollow, S.k0, c1, dn]
      · have T1 := Q1.1
        have um := Q1.no O hp
        have rfm := m_isRefused (k := 5) T1 (by omega)
        simp (disch := omega) only [nm, bd_s, ko_K, ka_K, koK_t, kaK_t, kr_s, kn_s, kn_n, hK_sI, hR_sI, hK_sL, hR_sL, hI_sL, hL_sI, hL_sL, hI_sI, hN_sI, hN_sL, ch_G, ch_T, nb_0, nb_1, zb_G, d_T, d_F, d_eT, d_eF, b2i_t, b2i_f, tn_nI, fa_lit, fa_litL, m1_e, nI_add, pk_mul, pk_sub, nI_leI, nI_ltI, nI_eq, le_T, le_F, lt_T, lt_F, eq_T, eq_F, if_pos, if_neg, m1_le, m1_lt', m1_gt, m1_le', m1_eq, m1_qe, b2i_eq0, in_N, in_n, in_I, ↓reduceIte, Bool.true_eq_false, Bool.false_eq_true, reduceCtorEq, decide_eq_true_eq, decide_eq_false_iff_not, Nat.not_lt, Nat.not_le, not_true_eq_false, not_false_eq_true, true_and, and_true, and_self, false_and, and_false, true_or, or_true, false_or, or_false, f_X12_store_21, f_X12_store, f_X12_canFollow_24, f_X12_canFollow_60, f_X12_canFollow_90, f_X12_canFollow_85, f_X12_canFollow, T1.k, um, rfm]
end St
