/-! undo, copy, seal, unseal -/
section A2
variable {h : aH} {x r tl : Nat} {tp : Nat → Nat} {rf : Nat → Int32} {ft fp : Int32} {sd : Nat} {M mem sh : Nat} {ns : Nat → List Nat} {kd : Nat → Nat} {cd : Nat → List Nat} {N : tyN} {sl : Nat → tyN} {nx c cr : Nat} {rn : Nat} {rw_ : Nat → Nat} {on_ : Nat} {ob : Nat → Nat}
theorem S_undo (C : CX h x (r, tl, tp, rf, ft, fp, sd) (M, mem, sh, ns, kd, cd) N (sl, nx, c, cr) (rn, rw_) (on_, ob)) (Q : CM h (x + 107) (r, tl, tp, rf, ft, fp, sd) (M, mem, sh, ns, kd, cd) N (sl, nx, c, cr) (rn, rw_) (on_, ob)) (O : Ok (r, tl, tp, rf, ft, fp, sd) (M, mem, sh, ns, kd, cd) N (sl, nx, c, cr) (rn, rw_) (on_, ob)) : SM Int32 x h (f_X11_undo x) (f_X12_undo (x + 107)) := by
  have S := C.1
  obtain ⟨d1, d2, d3, d4, d5, d6, d7, d8, d9, d10⟩ := C.2.2.2.2.1
  simp only at d1 d2 d3 d4 d5 d6 d7 d8 d9 d10
  by_cases c0 : c = 0
  · subst c0
    have dn := c_deny (k := 6) S (by omega)
    have bn := h_back_no (h := h) (y := x + 81) (s := x + 3) S.k81 d2
    refine glueR (k := 6) (v := nI 0) C Q O (by omega) ?_ (fun g1 Q1 => ?_)
    · simp (disch := omega) only [nm, bd_s, ko_K, ka_K, koK_t, kaK_t, kr_s, kn_s, kn_n, hK_sI, hR_sI, hK_sL, hR_sL, hI_sL, hL_sI, hL_sL, hI_sI, hN_sI, hN_sL, ch_G, ch_T, nb_0, nb_1, zb_G, d_T, d_F, d_eT, d_eF, b2i_t, b2i_f, tn_nI, fa_lit, fa_litL, m1_e, nI_add, pk_mul, pk_sub, nI_leI, nI_ltI, nI_eq, le_T, le_F, lt_T, lt_F, eq_T, eq_F, if_pos, if_neg, m1_le, m1_lt', m1_gt, m1_le', m1_eq, m1_qe, b2i_eq0, in_N, in_n, in_I, ↓reduceIte, Bool.true_eq_false, Bool.false_eq_true, reduceCtorEq, decide_eq_true_eq, decide_eq_false_iff_not, Nat.not_lt, Nat.not_le, not_true_eq_false, not_false_eq_true, true_and, and_true, and_self, false_and, and_false, true_or, or_true, false_or, or_false, f_X11_undo_28, f_X11_undo_23, f_X11_undo, S.k0, S.r0_4, S.r0_2, S.k81, bn, dn]
    · exact m_undo_no Q1.1 Q1.2.2.2.2.1.1
  · have hr : r = 1 := by
      rcases O.cs with q | q
      · exact absurd q.2.2.2.2.2.1 c0
      · exact q.1
    obtain ⟨-, okb, okn, okd⟩ := O.cs.resolve_left (fun q => by omega)
    have n0 : nx0 nx < cr := by unfold nx0; split <;> omega
    have sr := d3 (nx0 nx) (by unfold nx0; split <;> omega)
    rw [if_pos n0] at sr
    have okq := okd 0 (by omega)
    rw [show (nx + 19 - 0) % 20 = nx0 nx by unfold nx0; split <;> omega] at okq
    have Rq := d5 _ n0
    have bk := h_back (h := h) (y := x + 81) (q := x + 175 + 39 * nx0 nx) (s := x + 3) (n := nx) (c := c) S.k81 S.r81_2 S.k82 d1 d6 d2 d10 (by omega) sr (d4 _ n0) S.now (by omega) (by omega) Rq.flg
    have kI : ∀ b j, ¬ (x + 3 ≤ b ∧ b < x + 42) → ¬ (b = x + 81 ∧ j < 2) → hI (backH h (x + 81) (x + 175 + 39 * nx0 nx) (x + 3) nx c) b j = hI h b j := fun b j q1 q2 => by
      unfold backH
      rw [hI_sI, if_neg (by omega), hI_sI, if_neg (by omega), hI_cpA, if_neg (by omega), if_neg (by omega), if_neg (by omega), if_neg (by omega), if_neg (by omega)]
    refine glue (A' := (r, tl, tp, rf, ft, fp, sd)) (B' := (M, mem, sh, ns, kd, cd)) (N' := sl (nx0 nx)) (D' := (sl, nx0 nx, c - 1, cr)) (E' := (rn, rw_)) (F' := (on_, ob)) (v := nI 1) Q ⟨backH h (x + 81) (x + 175 + 39 * nx0 nx) (x + 3) nx c, ?_, ?_, ?_⟩ (fun g1 Q1 => ⟨_, m_undo Q1.1 Q1.2.2.2.2.1.2.1 d6 Q1.2.2.2.2.1.1 d10 (by show 0 < c; omega), ?_, ?_⟩) ?_
    · simp (disch := omega) only [nm, bd_s, ko_K, ka_K, koK_t, kaK_t, kr_s, kn_s, kn_n, hK_sI, hR_sI, hK_sL, hR_sL, hI_sL, hL_sI, hL_sL, hI_sI, hN_sI, hN_sL, ch_G, ch_T, nb_0, nb_1, zb_G, d_T, d_F, d_eT, d_eF, b2i_t, b2i_f, tn_nI, fa_lit, fa_litL, m1_e, nI_add, pk_mul, pk_sub, nI_leI, nI_ltI, nI_eq, le_T, le_F, lt_T, lt_F, eq_T, eq_F, if_pos, if_neg, m1_le, m1_lt', m1_gt, m1_le', m1_eq, m1_qe, b2i_eq0, in_N, in_n, in_I, ↓reduceIte, Bool.true_eq_false, Bool.false_eq_true, reduceCtorEq, decide_eq_true_eq, decide_eq_false_iff_not, Nat.not_lt, Nat.not_le, not_true_eq_false, not_false_eq_true, true_and, and_true, and_self, false_and, and_false, true_or, or_true, false_or, or_false, f_X11_undo_28, f_X11_undo_23, f_X11_undo, S.k0, S.r0_4, S.r0_2, S.k81, bk]
    · obtain ⟨c1, c2, c3, c4, -, c6, c7, c8, c9⟩ := C
      refine ⟨c1.of rfl rfl, c2.fr (fun b _ _ j => kI b j (by omega) (by omega)) rfl, c3.fr (fun b _ _ j => kI b j (by omega) (by omega)) rfl rfl, ?_, ⟨?_, ?_, d3, fun k hk => (d4 k hk).of rfl rfl, fun k hk => (d5 k hk).fr (fun b b1 b2 j => kI b j (by omega) (by omega)), ?_, ?_, d8, ?_, ?_⟩, c6.fr (kI _ _ (by omega) (by omega)) (fun b _ _ j => kI b j (by omega) (by omega)), c7.fr (fun b _ _ j => kI b j (by omega) (by omega)), c8, c9⟩
      · have := Rq.cp okq.2.2.2.2.1 okq.2.2.2.2.2.2.2.1 (q := x + 3) (by omega)
        exact this.fr (fun b _ _ j => by unfold backH; rw [hI_sI, if_neg (by omega), hI_sI, if_neg (by omega)])
      · unfold backH; rw [hI_sI, if_neg (by omega), hI_sI, if_pos ⟨rfl, rfl⟩]
      · unfold backH; rw [hI_sI, if_pos ⟨rfl, rfl⟩]
      · show nx0 nx < 20
        omega
      · show nx0 nx ≤ cr
        omega
      · show c - 1 ≤ nx0 nx ∨ cr = 20
        unfold nx0; split <;> omega
      · show c - 1 ≤ 20
        omega
    · intro b b1 b2
      exact ⟨rfl, fun j => ⟨kI b j (by omega) (by omega), rfl, rfl⟩⟩
    · have gI : ∀ b j, ¬ (b = x + 107 + 34) → ¬ (b = x + 107 ∧ (j = 63 ∨ j = 64)) → hI (unM g1 (x + 107) nx c) b j = hI g1 b j := fun b j q1 q2 => by
        unfold unM; rw [hI_sI, if_neg (by omega), hI_sI, if_neg (by omega), hI_fb, if_neg (by omega)]
      obtain ⟨c1, c2, c3, c4, ⟨e1, e2, e3⟩, c6, c7, c8⟩ := Q1
      refine ⟨c1.of rfl rfl, c2.fr (fun b j q => gI b j (by omega) (by omega)) rfl, c3.fr (fun b j q => gI b j (by omega) (by omega)) (fun _ _ => rfl), fun j hj => ?_, ⟨?_, ?_, ?_⟩, c6.fr (fun b j q => gI b j (by omega) (by omega)), c7.fr (fun b j q => gI b j (by omega) (by omega)), c8.fr (fun b j q => gI b j (by omega) (by omega))⟩
      · show hI (unM g1 (x + 107) nx c) (x + 107 + 34) j = mN (sl (nx0 nx)) j
        have := e3 (nx0 nx) n0 j hj
        rw [show (nx0 nx + 1) % 20 = nx by unfold nx0; split <;> omega] at this
        unfold unM; rw [hI_sI, if_neg (by omega), hI_sI, if_neg (by omega), hI_fb, if_pos ⟨rfl, by omega, by omega⟩]
        exact this
      · unfold unM; rw [hI_sI, if_pos ⟨rfl, rfl⟩]
      · unfold unM; rw [hI_sI, if_neg (by omega), hI_sI, if_pos ⟨rfl, rfl⟩]
        show nI ((nx + 19) % 20) = nI (nx0 nx)
        rw [show (nx + 19) % 20 = nx0 nx by unfold nx0; split <;> omega]
      · intro k hk j hj
        show hI (unM g1 (x + 107) nx c) (x + 107 + 38) _ = _
        rw [gI _ _ (by omega) (by omega)]
        exact e3 k hk j hj
    · exact ((FM.fb (by omega) (by omega)).trans (FM.sI (by omega) (by omega))).trans (FM.sI (by omega) (by omega))
    · obtain ⟨o1, o2, o3, -⟩ := O
      refine ⟨o1, o2, o3, Or.inr ⟨hr, okb, okq, fun i hi => ?_⟩⟩
      have := okd (i + 1) (by have hi' : i < c - 1 := hi; omega)
      show okN M mem sh (sl ((nx0 nx + 19 - i) % 20))
      rw [show (nx0 nx + 19 - i) % 20 = (nx + 19 - (i + 1)) % 20 by have hi' : i < c - 1 := hi; unfold nx0; split <;> omega]
      exact this
/-- eight numbers become others -/
def cpN (N : tyN) (a b : Nat) : tyN := fun j => if b ≤ j ∧ j < b + 8 then N (a + (j - b)) else N j
theorem cpN_i (N : tyN) {a b i : Nat} (hi : i < 8) : cpN N a b (b + i) = N (a + i) := by unfold cpN; rw [if_pos (by omega), show b + i - b = i by omega]
theorem cpN_0 (N : tyN) {a b : Nat} : cpN N a b b = N a := by unfold cpN; rw [if_pos (by omega), show b - b = 0 by omega]; rfl
theorem CX.cp (C : CX h x (r, tl, tp, rf, ft, fp, sd) (M, mem, sh, ns, kd, cd) N (sl, nx, c, cr) (rn, rw_) (on_, ob)) {i k : Nat} (hi : i < 32) (hk : k < 32) (fl : N (8 * i) ≤ 1) : f_X6_become (x + 3 + 7 + k) (x + 3 + 7 + i) h = some ((), cpP h (x + 3 + 7 + k) (x + 3 + 7 + i)) ∧ CX (cpP h (x + 3 + 7 + k) (x + 3 + 7 + i)) x (r, tl, tp, rf, ft, fp, sd) (M, mem, sh, ns, kd, cd) (cpN N (8 * i) (8 * k)) (sl, nx, c, cr) (rn, rw_) (on_, ob) ∧ FC x h (cpP h (x + 3 + 7 + k) (x + 3 + 7 + i)) := by
  obtain ⟨p0, p1, p2, p3, p4, p5, p6, p7⟩ := C.2.2.2.1.cl hi fl
  refine ⟨p_become (C.1.now.kp hk) (C.1.now.kp hi) (by rw [p0]; exact Or.inr rfl) (by rw [p1]; exact flag01 fl), C.nc1 ⟨rfl, fun _ _ _ => rfl, rfl, rfl, fun b j q => ?_, fun _ _ _ => rfl⟩ rfl rfl (C.2.2.2.1.cell hk (fun b _ _ q j => by rw [hI_cpP, if_neg (by omega)]) (fun j q => by unfold cpN; rw [if_neg (by omega)]) ?_)⟩
  · rw [hI_cpP, if_neg]
    rintro ⟨rfl, z⟩
    exact q (by unfold NC; omega)
  · refine Or.inr ⟨?_, ?_, ?_, ?_, ?_, ?_, ?_, ?_, ?_⟩
    · rw [cpN_0]; exact fl
    · rw [hI_cpP, if_pos ⟨rfl, by omega⟩]; exact p0
    · rw [hI_cpP, if_pos ⟨rfl, by omega⟩, cpN_0]; exact p1
    all_goals
      rw [hI_cpP, if_pos ⟨rfl, by omega⟩, cpN_i N (by omega)]; assumption
/-- i of eight numbers copied by the reference -/
def mCp (h : aH) (m a b i : Nat) : aH := fb h (m + 34) b i (fun j => hI h (m + 34) (a + j))
theorem m_copies {m a b : Nat} (T : MS h m) (ha : a + 8 ≤ 1498) (hb : b + 8 ≤ 1498) (hd : a + 8 ≤ b ∨ b + 8 ≤ a ∨ a = b) : f_X12_copies m (nI a) (nI b) h = some ((), mCp h m a b 8) := by
  have G : ∀ i, MS (mCp h m a b i) m := fun i => T.of rfl rfl
  have L1 := (loop_itr (fun k i (_ : Unit) => f_X12_copies_2 k m (nI a) (nI b) (nI i) (mCp h m a b i)) 8 (fun _ u => u) (fun _ => ((), mCp h m a b 8)) (fun _ _ => True) (fun k i _ hi _ => ⟨?_, trivial⟩) (fun k _ _ => ?_) 8 0 () FU (by omega) trivial (FU_gt (by omega))).1
  · rw [show mCp h m a b 0 = h from fb_0] at L1
    exact L1
  · have v : hI (mCp h m a b i) (m + 34) (a + i) = hI h (m + 34) (a + i) := by
      unfold mCp
      rw [hI_fb]
      by_cases c1 : a = b
      · subst c1; rw [if_neg (by omega)]
      · rw [if_neg (by omega)]
    have nx := fb_next (h := h) (a := m + 34) (t := b) (i := i) (f := fun j => hI h (m + 34) (a + j))
    rw [show fb h (m + 34) b i (fun j => hI h (m + 34) (a + j)) = mCp h m a b i from rfl, show fb h (m + 34) b (i + 1) (fun j => hI h (m + 34) (a + j)) = mCp h m a b (i + 1) from rfl] at nx
    simp (disch := omega) only [nm, bd_s, ko_K, ka_K, koK_t, kaK_t, kr_s, kn_s, kn_n, hK_sI, hR_sI, hK_sL, hR_sL, hI_sL, hL_sI, hL_sL, hI_sI, hN_sI, hN_sL, ch_G, ch_T, nb_0, nb_1, zb_G, d_T, d_F, d_eT, d_eF, b2i_t, b2i_f, tn_nI, fa_lit, fa_litL, m1_e, nI_add, pk_mul, pk_sub, nI_leI, nI_ltI, nI_eq, le_T, le_F, lt_T, lt_F, eq_T, eq_F, if_pos, if_neg, m1_le, m1_lt', m1_gt, m1_le', m1_eq, m1_qe, b2i_eq0, in_N, in_n, in_I, ↓reduceIte, Bool.true_eq_false, Bool.false_eq_true, reduceCtorEq, decide_eq_true_eq, decide_eq_false_iff_not, Nat.not_lt, Nat.not_le, not_true_eq_false, not_false_eq_true, true_and, and_true, and_self, false_and, and_false, true_or, or_true, false_or, or_false, f_X12_copies_2, b_X12_copies_2, (G i).k, (G i).r47, (G i).k47, v, nx]
  · simp (disch := omega) only [nm, bd_s, ko_K, ka_K, koK_t, kaK_t, kr_s, kn_s, kn_n, hK_sI, hR_sI, hK_sL, hR_sL, hI_sL, hL_sI, hL_sL, hI_sI, hN_sI, hN_sL, ch_G, ch_T, nb_0, nb_1, zb_G, d_T, d_F, d_eT, d_eF, b2i_t, b2i_f, tn_nI, fa_lit, fa_litL, m1_e, nI_add, pk_mul, pk_sub, nI_leI, nI_ltI, nI_eq, le_T, le_F, lt_T, lt_F, eq_T, eq_F, if_pos, if_neg, m1_le, m1_lt', m1_gt, m1_le', m1_eq, m1_qe, b2i_eq0, in_N, in_n, in_I, ↓reduceIte, Bool.true_eq_false, Bool.false_eq_true, reduceCtorEq, decide_eq_true_eq, decide_eq_false_iff_not, Nat.not_lt, Nat.not_le, not_true_eq_false, not_false_eq_true, true_and, and_true, and_self, false_and, and_false, true_or, or_true, false_or, or_false, f_X12_copies_2, b_X12_copies_2]
theorem CM.cp (Q : CM h (x + 107) (r, tl, tp, rf, ft, fp, sd) (M, mem, sh, ns, kd, cd) N (sl, nx, c, cr) (rn, rw_) (on_, ob)) {i k : Nat} (hi : i < 32) (hk : k < 32) : f_X12_copies (x + 107) (nI (8 * i)) (nI (8 * k)) h = some ((), mCp h (x + 107) (8 * i) (8 * k) 8) ∧ CM (mCp h (x + 107) (8 * i) (8 * k) 8) (x + 107) (r, tl, tp, rf, ft, fp, sd) (M, mem, sh, ns, kd, cd) (cpN N (8 * i) (8 * k)) (sl, nx, c, cr) (rn, rw_) (on_, ob) ∧ FM x h (mCp h (x + 107) (8 * i) (8 * k) 8) := by
  refine ⟨m_copies Q.1 (by omega) (by omega) (by omega), Q.nc rfl rfl (fun b j _ q => by unfold mCp; rw [hI_fb, if_neg (by omega)]) rfl (fun _ _ => rfl) (fun j hj => ?_), FM.fb (by omega) (by omega)⟩
  unfold mCp
  rw [hI_fb]
  unfold mN cpN
  by_cases c1 : 8 * k ≤ j ∧ j < 8 * k + 8
  · rw [if_pos ⟨rfl, c1.1, c1.2⟩, if_pos c1, Q.2.2.2.1 _ (by omega)]
    unfold mN
    by_cases c2 : N (8 * i + (j - 8 * k)) = 2 ∧ j % 8 = 0
    · rw [if_pos ⟨by omega, by omega, c2.1⟩, if_pos ⟨by omega, c2.2, c2.1⟩]
    · rw [if_neg (by intro z; exact c2 ⟨z.2.2, by omega⟩), if_neg (by intro z; exact c2 ⟨z.2.2, z.2.1⟩)]
  · rw [if_neg (by omega), if_neg c1, Q.2.2.2.1 j hj]
    rfl
theorem okN.cp (q : okN M mem sh N) (h8 : M ≤ 8) {i k : Nat} (hi : i < 32) (hk : k < 32) (f1 : k < 16 → N (8 * i) ≤ 1) (f2 : ¬ 16 + 4 * sh ≤ k) : okN M mem sh (cpN N (8 * i) (8 * k)) := by
  refine q.cell h8 hk (fun j z => by unfold cpN; rw [if_neg (by omega)]) ?_ ?_ ?_ ?_
  · unfold okP
    rw [cpN_0, cpN_i N (by omega), cpN_i N (by omega), cpN_i N (by omega), cpN_i N (by omega), cpN_i N (by omega), cpN_i N (by omega)]
    exact q.2.1 i hi
  · rw [cpN_i N (by omega)]; exact q.1 _
  · intro z; rw [cpN_0]; exact f1 z
  · intro z; exact absurd z f2
theorem S_copy (C : CX h x (r, tl, tp, rf, ft, fp, sd) (M, mem, sh, ns, kd, cd) N (sl, nx, c, cr) (rn, rw_) (on_, ob)) (Q : CM h (x + 107) (r, tl, tp, rf, ft, fp, sd) (M, mem, sh, ns, kd, cd) N (sl, nx, c, cr) (rn, rw_) (on_, ob)) (O : Ok (r, tl, tp, rf, ft, fp, sd) (M, mem, sh, ns, kd, cd) N (sl, nx, c, cr) (rn, rw_) (on_, ob)) (p w : Int32) : SM Int32 x h (f_X11_copy x p w) (f_X12_copy (x + 107) p w) := by
  have S := C.1
  have W := S.now
  have dn := c_deny (k := 3) S (by omega)
  by_cases hp : r = 1 ∧ ∃ k, k < 16 ∧ p = nI k
  · obtain ⟨hr, i, hi, rfl⟩ := hp
    have c1 := C.ip hr hi
    by_cases hw : r = 1 ∧ ∃ k, k < 16 ∧ w = nI k
    · obtain ⟨-, k, hk, rfl⟩ := hw
      have c3 := C.ip hr hk
      have okn := O.okn hr
      have fl := okn.fl hi
      by_cases ik : i = k
      · subst ik
        refine glueR (k := 3) (v := nI 0) C Q O (by omega) ?_ (fun g1 Q1 => ?_)
        · simp (disch := omega) only [nm, bd_s, ko_K, ka_K, koK_t, kaK_t, kr_s, kn_s, kn_n, hK_sI, hR_sI, hK_sL, hR_sL, hI_sL, hL_sI, hL_sL, hI_sI, hN_sI, hN_sL, ch_G, ch_T, nb_0, nb_1, zb_G, d_T, d_F, d_eT, d_eF, b2i_t, b2i_f, tn_nI, fa_lit, fa_litL, m1_e, nI_add, pk_mul, pk_sub, nI_leI, nI_ltI, nI_eq, le_T, le_F, lt_T, lt_F, eq_T, eq_F, if_pos, if_neg, m1_le, m1_lt', m1_gt, m1_le', m1_eq, m1_qe, b2i_eq0, in_N, in_n, in_I, ↓reduceIte, Bool.true_eq_false, Bool.false_eq_true, reduceCtorEq, decide_eq_true_eq, decide_eq_false_iff_not, Nat.not_lt, Nat.not_le, not_true_eq_false, not_false_eq_true, true_and, and_true, and_self, false_and, and_false, true_or, or_true, false_or, or_false, f_X11_copy_21, f_X11_copy, S.k0, c1, dn]
        · have T1 := Q1.1
          have c2 := Q1.ip hr hi
          have rfm := m_isRefused (k := 3) T1 (by omega)
          simp (disch := omega) only [nm, bd_s, ko_K, ka_K, koK_t, kaK_t, kr_s, kn_s, kn_n, hK_sI, hR_sI, hK_sL, hR_sL, hI_sL, hL_sI, hL_sL, hI_sI, hN_sI, hN_sL, ch_G, ch_T, nb_0, nb_1, zb_G, d_T, d_F, d_eT, d_eF, b2i_t, b2i_f, tn_nI, fa_lit, fa_litL, m1_e, nI_add, pk_mul, pk_sub, nI_leI, nI_ltI, nI_eq, le_T, le_F, lt_T, lt_F, eq_T, eq_F, if_pos, if_neg, m1_le, m1_lt', m1_gt, m1_le', m1_eq, m1_qe, b2i_eq0, in_N, in_n, in_I, ↓reduceIte, Bool.true_eq_false, Bool.false_eq_true, reduceCtorEq, decide_eq_true_eq, decide_eq_false_iff_not, Nat.not_lt, Nat.not_le, not_true_eq_false, not_false_eq_true, true_and, and_true, and_self, false_and, and_false, true_or, or_true, false_or, or_false, f_X12_copy_23, f_X12_copy, T1.k, c2, rfm]
      · refine glueA (N' := cpN N (8 * i) (8 * k)) (v := nI 1) C Q O hr (okn.cp (O.okb hr).2.1 (by omega) (by omega) (fun _ => fl) (by omega)) (fun h1 e1 C1 => ?_) (fun g g1 Q0 e1 Q1 => ?_)
        · have S1 := C1.1
          have W1 := S1.now
          obtain ⟨b1, b2⟩ := C1.cp (i := i) (k := k) (by omega) (by omega) fl
          refine ⟨_, ?_, b2⟩
          simp (disch := omega) only [nm, bd_s, ko_K, ka_K, koK_t, kaK_t, kr_s, kn_s, kn_n, hK_sI, hR_sI, hK_sL, hR_sL, hI_sL, hL_sI, hL_sL, hI_sI, hN_sI, hN_sL, ch_G, ch_T, nb_0, nb_1, zb_G, d_T, d_F, d_eT, d_eF, b2i_t, b2i_f, tn_nI, fa_lit, fa_litL, m1_e, nI_add, pk_mul, pk_sub, nI_leI, nI_ltI, nI_eq, le_T, le_F, lt_T, lt_F, eq_T, eq_F, if_pos, if_neg, m1_le, m1_lt', m1_gt, m1_le', m1_eq, m1_qe, b2i_eq0, in_N, in_n, in_I, ↓reduceIte, Bool.true_eq_false, Bool.false_eq_true, reduceCtorEq, decide_eq_true_eq, decide_eq_false_iff_not, Nat.not_lt, Nat.not_le, not_true_eq_false, not_false_eq_true, true_and, and_true, and_self, false_and, and_false, true_or, or_true, false_or, or_false, f_X11_copy_21, f_X11_copy, S.k0, S.r0_2, S.r0_4, S.k81, c1, c3, ik, e1, S1.k0, S1.r0_2, W1.k, W1.r0, W1.k1, W1.rp, W1.kp, b1]
        · have T0 := Q0.1
          have T1 := Q1.1
          have c2 := Q0.ip hr hi
          have c4 := Q0.ip hr hk
          obtain ⟨b1, b2⟩ := Q1.cp (i := i) (k := k) (by omega) (by omega)
          refine ⟨_, ?_, b2⟩
          simp (disch := omega) only [nm, bd_s, ko_K, ka_K, koK_t, kaK_t, kr_s, kn_s, kn_n, hK_sI, hR_sI, hK_sL, hR_sL, hI_sL, hL_sI, hL_sL, hI_sI, hN_sI, hN_sL, ch_G, ch_T, nb_0, nb_1, zb_G, d_T, d_F, d_eT, d_eF, b2i_t, b2i_f, tn_nI, fa_lit, fa_litL, m1_e, nI_add, pk_mul, pk_sub, nI_leI, nI_ltI, nI_eq, le_T, le_F, lt_T, lt_F, eq_T, eq_F, if_pos, if_neg, m1_le, m1_lt', m1_gt, m1_le', m1_eq, m1_qe, b2i_eq0, in_N, in_n, in_I, ↓reduceIte, Bool.true_eq_false, Bool.false_eq_true, reduceCtorEq, decide_eq_true_eq, decide_eq_false_iff_not, Nat.not_lt, Nat.not_le, not_true_eq_false, not_false_eq_true, true_and, and_true, and_self, false_and, and_false, true_or, or_true, false_or, or_false, f_X12_copy_23, f_X12_copy, T0.k, c2, c4, ik, e1, T1.k, b1]
    · have c3 := C.np O hw
      refine glueR (k := 3) (v := nI 0) C Q O (by omega) ?_ (fun g1 Q1 => ?_)
      · simp (disch := omega) only [nm, bd_s, ko_K, ka_K, koK_t, kaK_t, kr_s, kn_s, kn_n, hK_sI, hR_sI, hK_sL, hR_sL, hI_sL, hL_sI, hL_sL, hI_sI, hN_sI, hN_sL, ch_G, ch_T, nb_0, nb_1, zb_G, d_T, d_F, d_eT, d_eF, b2i_t, b2i_f, tn_nI, fa_lit, fa_litL, m1_e, nI_add, pk_mul, pk_sub, nI_leI, nI_ltI, nI_eq, le_T, le_F, lt_T, lt_F, eq_T, eq_F, if_pos, if_neg, m1_le, m1_lt', m1_gt, m1_le', m1_eq, m1_qe, b2i_eq0, in_N, in_n, in_I, ↓reduceIte, Bool.true_eq_false, Bool.false_eq_true, reduceCtorEq, decide_eq_true_eq, decide_eq_false_iff_not, Nat.not_lt, Nat.not_le, not_true_eq_false, not_false_eq_true, true_and, and_true, and_self, false_and, and_false, true_or, or_true, false_or, or_false, f_X11_copy_21, f_X11_copy, S.k0, c1, c3, dn]
      · have T1 := Q1.1
        have c2 := Q1.ip hr hi
        have c4 := Q1.np O hw
        have rfm := m_isRefused (k := 3) T1 (by omega)
        simp (disch := omega) only [nm, bd_s, ko_K, ka_K, koK_t, kaK_t, kr_s, kn_s, kn_n, hK_sI, hR_sI, hK_sL, hR_sL, hI_sL, hL_sI, hL_sL, hI_sI, hN_sI, hN_sL, ch_G, ch_T, nb_0, nb_1, zb_G, d_T, d_F, d_eT, d_eF, b2i_t, b2i_f, tn_nI, fa_lit, fa_litL, m1_e, nI_add, pk_mul, pk_sub, nI_leI, nI_ltI, nI_eq, le_T, le_F, lt_T, lt_F, eq_T, eq_F, if_pos, if_neg, m1_le, m1_lt', m1_gt, m1_le', m1_eq, m1_qe, b2i_eq0, in_N, in_n, in_I, ↓reduceIte, Bool.true_eq_false, Bool.false_eq_true, reduceCtorEq, decide_eq_true_eq, decide_eq_false_iff_not, Nat.not_lt, Nat.not_le, not_true_eq_false, not_false_eq_true, true_and, and_true, and_self, false_and, and_false, true_or, or_true, false_or, or_false, f_X12_copy_23, f_X12_copy, T1.k, c2, c4, rfm]
  · have c1 := C.np O hp
    refine glueR (k := 3) (v := nI 0) C Q O (by omega) ?_ (fun g1 Q1 => ?_)
    · simp (disch := omega) only [nm, bd_s, ko_K, ka_K, koK_t, kaK_t, kr_s, kn_s, kn_n, hK_sI, hR_sI, hK_sL, hR_sL, hI_sL, hL_sI, hL_sL, hI_sI, hN_sI, hN_sL, ch_G, ch_T, nb_0, nb_1, zb_G, d_T, d_F, d_eT, d_eF, b2i_t, b2i_f, tn_nI, fa_lit, fa_litL, m1_e, nI_add, pk_mul, pk_sub, nI_leI, nI_ltI, nI_eq, le_T, le_F, lt_T, lt_F, eq_T, eq_F, if_pos, if_neg, m1_le, m1_lt', m1_gt, m1_le', m1_eq, m1_qe, b2i_eq0, in_N, in_n, in_I, ↓reduceIte, Bool.true_eq_false, Bool.false_eq_true, reduceCtorEq, decide_eq_true_eq, decide_eq_false_iff_not, Nat.not_lt, Nat.not_le, not_true_eq_false, not_false_eq_true, true_and, and_true, and_self, false_and, and_false, true_or, or_true, false_or, or_false, f_X11_copy_21, f_X11_copy, S.k0, c1, dn]
    · have T1 := Q1.1
      have c2 := Q1.np O hp
      have rfm := m_isRefused (k := 3) T1 (by omega)
      simp (disch := omega) only [nm, bd_s, ko_K, ka_K, koK_t, kaK_t, kr_s, kn_s, kn_n, hK_sI, hR_sI, hK_sL, hR_sL, hI_sL, hL_sI, hL_sL, hI_sI, hN_sI, hN_sL, ch_G, ch_T, nb_0, nb_1, zb_G, d_T, d_F, d_eT, d_eF, b2i_t, b2i_f, tn_nI, fa_lit, fa_litL, m1_e, nI_add, pk_mul, pk_sub, nI_leI, nI_ltI, nI_eq, le_T, le_F, lt_T, lt_F, eq_T, eq_F, if_pos, if_neg, m1_le, m1_lt', m1_gt, m1_le', m1_eq, m1_qe, b2i_eq0, in_N, in_n, in_I, ↓reduceIte, Bool.true_eq_false, Bool.false_eq_true, reduceCtorEq, decide_eq_true_eq, decide_eq_false_iff_not, Nat.not_lt, Nat.not_le, not_true_eq_false, not_false_eq_true, true_and, and_true, and_self, false_and, and_false, true_or, or_true, false_or, or_false, f_X12_copy_23, f_X12_copy, T1.k, c2, rfm]
end A2
