/-! numbers that are too large -/
section Bg
variable {p : Int32} {n : Nat}
theorem bg_i (hp : nI n ≤ p) (hn : n < 2 ^ 31) : (n : Int) ≤ p.toInt := by
  rw [fa_le, nI_toInt hn] at hp; exact hp
theorem bg_ge (hp : nI n ≤ p) (hn : n < 2 ^ 31) {j : Nat} (hj : j ≤ n) : (nI j ≤ p) = True := by
  have := bg_i hp hn
  refine eq_true ?_
  rw [fa_le, nI_toInt (by omega)]; omega
theorem bg_lt (hp : nI n ≤ p) (hn : n < 2 ^ 31) {j : Nat} (hj : j ≤ n) : (p < nI j) = False := by
  have := bg_i hp hn
  refine eq_false ?_
  rw [fa_lt, nI_toInt (by omega)]; omega
theorem bg_gt (hp : nI n ≤ p) (hn : n < 2 ^ 31) {j : Nat} (hj : j < n) : (nI j < p) = True := by
  have := bg_i hp hn
  refine eq_true ?_
  rw [fa_lt, nI_toInt (by omega)]; omega
theorem bg_le (hp : nI n ≤ p) (hn : n < 2 ^ 31) {j : Nat} (hj : j < n) : (p ≤ nI j) = False := by
  have := bg_i hp hn
  refine eq_false ?_
  rw [fa_le, nI_toInt (by omega)]; omega
theorem bg_eq (hp : nI n ≤ p) (hn : n < 2 ^ 31) {j : Nat} (hj : j < n) : (p = nI j) = False := by
  have := bg_i hp hn
  refine eq_false ?_
  rw [fa_eq, nI_toInt (by omega)]; omega
theorem in_b {h : aH} {a : Nat} (hp : nI n ≤ p) (hn : n < 2 ^ 31) (ha : a < 2 ^ 31) : f_X12_isIn p.toInt64 (lN a) (nI n - nI 1).toInt64 h = some (nI 0, h) := by
  rw [lN_nI a ha, m_isIn]
  have h1 := bg_i hp hn
  have e1 : ¬ p ≤ nI n - nI 1 := by
    by_cases n0 : n = 0
    · subst n0
      rw [s01, fa_le, show (-nI 1 : Int32).toInt = -1 by decide]; omega
    · rw [pk_sub (show 1 ≤ n by omega), fa_le, nI_toInt (by omega)]; omega
  simp [e1, b2i]
  rfl
theorem in_bN {h : aH} {a b : Nat} (hp : nI n ≤ p) (hn : n < 2 ^ 31) (ha : a < 2 ^ 31) (hb : b < n) : f_X12_isIn p.toInt64 (lN a) (lN b) h = some (nI 0, h) := by
  rw [lN_nI a ha, lN_nI b (by omega), m_isIn]
  have e1 : ¬ p ≤ nI b := by rw [bg_le hp hn hb]; exact id
  simp [e1, b2i]
  rfl
theorem in_bI {h : aH} {a b : Nat} (hp : nI n ≤ p) (hn : n < 2 ^ 31) (ha : a < 2 ^ 31) (hb : b < n) : f_X12_isIn p.toInt64 (lN a) (nI b).toInt64 h = some (nI 0, h) := by
  rw [← lN_nI b (by omega)]; exact in_bN hp hn ha hb
end Bg
theorem in_I {h : aH} {k a b : Nat} (hk : k < 2 ^ 31) (ha : a < 2 ^ 31) (hb : b < 2 ^ 31) : f_X12_isIn (nI k).toInt64 (lN a) (nI b).toInt64 h = some (b2i (decide (a ≤ k ∧ k ≤ b)), h) := by
  rw [← lN_nI b hb]; exact in_N hk ha hb
theorem z0_G {β : Type} {x : Option β} {inst : Decidable (narrow .boolean (.int (nI 0)) = .int (nI 0))} : @chk β (narrow .boolean (.int (nI 0)) = .int (nI 0)) inst x = x := chk_t rfl
theorem z1_G {β : Type} {x : Option β} {inst : Decidable (narrow .boolean (.int (nI 1)) = .int (nI 1))} : @chk β (narrow .boolean (.int (nI 1)) = .int (nI 1)) inst x = x := chk_t rfl
theorem zb_G {β : Type} {x : Option β} (b : Bool) {inst : Decidable (narrow .boolean (.int (b2i b)) = .int (b2i b))} : @chk β (narrow .boolean (.int (b2i b)) = .int (b2i b)) inst x = x := chk_t (by cases b <;> rfl)
theorem ch_G {β : Type} {k n : Nat} {x : Option β} {inst : Decidable (inb (nI k) n = true)} (hk : k < n) (hn : n < 2 ^ 31) : @chk β (inb (nI k) n = true) inst x = x := chk_t (inb_nI hk hn)
theorem ch_T {β : Type} {x : Option β} {inst : Decidable True} : @chk β True inst x = x := chk_t trivial
theorem nb_0 : (narrow .boolean (.int (nI 0)) = .int (nI 0)) = True := eq_true rfl
theorem nb_1 : (narrow .boolean (.int (nI 1)) = .int (nI 1)) = True := eq_true rfl
theorem d_T {inst : Decidable True} : @decide True inst = true := by simp
theorem d_F {inst : Decidable False} : @decide False inst = false := by simp
theorem d_eT {p : Prop} {inst : Decidable p} : (@decide p inst = true) = p := by simp
theorem d_eF {p : Prop} {inst : Decidable p} : (@decide p inst = false) = ¬ p := by simp
/-! the machine that stands -/
def MA (h : aH) (a : Nat) : Prop := hK h a = some (.inl 4) ∧ hR h a 4 = some (a + 1) ∧ hR h a 5 = some (a + 2) ∧ hR h a 6 = some (a + 3) ∧ hR h a 7 = some (a + 4) ∧ hR h a 8 = some (a + 5) ∧ hK h (a + 1) = some (.inr (.byte, 24)) ∧ hK h (a + 2) = some (.inr (.int, 4)) ∧ hK h (a + 3) = some (.inr (.int, 1600)) ∧ hK h (a + 4) = some (.inr (.int, 3)) ∧ hK h (a + 5) = some (.inr (.int, 3))
section Ma
variable {h : aH} {a : Nat}
theorem MA.k (q : MA h a) : hK h a = some (.inl 4) := q.1
theorem MA.r4 (q : MA h a) : hR h a 4 = some (a + 1) := q.2.1
theorem MA.r5 (q : MA h a) : hR h a 5 = some (a + 2) := q.2.2.1
theorem MA.r6 (q : MA h a) : hR h a 6 = some (a + 3) := q.2.2.2.1
theorem MA.r7 (q : MA h a) : hR h a 7 = some (a + 4) := q.2.2.2.2.1
theorem MA.r8 (q : MA h a) : hR h a 8 = some (a + 5) := q.2.2.2.2.2.1
theorem MA.k1 (q : MA h a) : hK h (a + 1) = some (.inr (.byte, 24)) := q.2.2.2.2.2.2.1
theorem MA.k2 (q : MA h a) : hK h (a + 2) = some (.inr (.int, 4)) := q.2.2.2.2.2.2.2.1
theorem MA.k3 (q : MA h a) : hK h (a + 3) = some (.inr (.int, 1600)) := q.2.2.2.2.2.2.2.2.1
theorem MA.k4 (q : MA h a) : hK h (a + 4) = some (.inr (.int, 3)) := q.2.2.2.2.2.2.2.2.2.1
theorem MA.k5 (q : MA h a) : hK h (a + 5) = some (.inr (.int, 3)) := q.2.2.2.2.2.2.2.2.2.2
theorem MA.of {h1 : aH} (q : MA h a) (e1 : hK h1 = hK h) (e2 : hR h1 = hR h) : MA h1 a := by unfold MA; rw [e1, e2]; exact q
theorem XS.ma {x : Nat} (S : XS h x) (ha : a = x + 92 ∨ a = x + 98) : MA h a := by
  rcases ha with rfl | rfl
  · exact ⟨S.k92, S.r92_4, S.r92_5, S.r92_6, S.r92_7, S.r92_8, S.k93, S.k94, S.k95, S.k96, S.k97⟩
  · exact ⟨S.k98, S.r98_4, S.r98_5, S.r98_6, S.r98_7, S.r98_8, S.k99, S.k100, S.k101, S.k102, S.k103⟩
end Ma
/-! what the calls rest on -/
section Rd
variable {h : aH} {x r tl : Nat} {tp : Nat → Nat} {rf : Nat → Int32} {ft fp : Int32} {sd : Nat} {M mem sh : Nat} {ns : Nat → List Nat} {kd : Nat → Nat} {cd : Nat → List Nat} {N : tyN} {sl : Nat → tyN} {nx c cr : Nat} {rn : Nat} {rw_ : Nat → Nat} {on_ : Nat} {ob : Nat → Nat}
theorem CX.run (C : CX h x (r, tl, tp, rf, ft, fp, sd) (M, mem, sh, ns, kd, cd) N (sl, nx, c, cr) (rn, rw_) (on_, ob)) (hr : r = 1) : ∃ a, (a = x + 92 ∨ a = x + 98) ∧ hR h x 9 = some a ∧ MA h a ∧ mB h a M mem sh ns kd cd := by
  obtain ⟨a, a', w, k⟩ := C.2.2.1
  have ha : a = x + 92 ∨ a = x + 98 := by have := w.1; omega
  exact ⟨a, ha, w.2.1, C.1.ma ha, k hr⟩
theorem CX.h9 (C : CX h x (r, tl, tp, rf, ft, fp, sd) (M, mem, sh, ns, kd, cd) N (sl, nx, c, cr) (rn, rw_) (on_, ob)) : ∃ a, (a = x + 92 ∨ a = x + 98) ∧ hR h x 9 = some a ∧ MA h a := by
  obtain ⟨a, a', w, k⟩ := C.2.2.1
  have ha : a = x + 92 ∨ a = x + 98 := by have := w.1; omega
  exact ⟨a, ha, w.2.1, C.1.ma ha⟩
/-- a cell of eight where something is -/
theorem RS.cl {s k : Nat} (R : RS h s N) (hk : k < 32) (h1 : N (8 * k) ≤ 1) : hI h (s + 7 + k) 0 = nI 1 ∧ hI h (s + 7 + k) 1 = nI (N (8 * k)) ∧ hI h (s + 7 + k) 2 = nI (N (8 * k + 1)) ∧ hI h (s + 7 + k) 3 = nI (N (8 * k + 2)) ∧ hI h (s + 7 + k) 4 = nI (N (8 * k + 3)) ∧ hI h (s + 7 + k) 5 = nI (N (8 * k + 4)) ∧ hI h (s + 7 + k) 6 = nI (N (8 * k + 5)) ∧ hI h (s + 7 + k) 7 = nI (N (8 * k + 6)) := by
  rcases R.1 k hk with q | q
  · omega
  · exact q.2
theorem RS.e {s k : Nat} (R : RS h s N) (hk : k < 32) (h1 : N (8 * k) = 2) : hI h (s + 7 + k) 0 = nI 0 := by
  rcases R.1 k hk with q | q
  · exact q.2.1
  · omega
theorem CM.n (Q : CM h (x + 107) (r, tl, tp, rf, ft, fp, sd) (M, mem, sh, ns, kd, cd) N (sl, nx, c, cr) (rn, rw_) (on_, ob)) {j : Nat} (hj : j < 1498) (h1 : 256 ≤ j ∨ ¬ j % 8 = 0 ∨ N j ≤ 1) : hI h (x + 107 + 34) j = nI (N j) := by
  rw [Q.2.2.2.1 j hj]
  rcases h1 with q | q | q
  · exact mN_n (Or.inl q)
  · exact mN_n (Or.inr q)
  · exact mN_f q
theorem CM.e (Q : CM h (x + 107) (r, tl, tp, rf, ft, fp, sd) (M, mem, sh, ns, kd, cd) N (sl, nx, c, cr) (rn, rw_) (on_, ob)) {k : Nat} (hk : k < 32) (h1 : N (8 * k) = 2) : hI h (x + 107 + 34) (8 * k) = -nI 1 := by
  rw [Q.2.2.2.1 _ (by omega)]
  exact mN_2 h1 (by omega) (by omega)
/-- running or not -/
theorem Ok.cs (O : Ok (r, tl, tp, rf, ft, fp, sd) (M, mem, sh, ns, kd, cd) N (sl, nx, c, cr) (rn, rw_) (on_, ob)) : (r = 0 ∧ M = 0 ∧ mem = 0 ∧ sh = 0 ∧ N = (fun _ => 0) ∧ c = 0 ∧ rn = 0) ∨ (r = 1 ∧ okB M mem sh ns kd cd ∧ okN M mem sh N ∧ okD M mem sh sl nx c) := O.2.2.2
theorem Ok.n0 (O : Ok (r, tl, tp, rf, ft, fp, sd) (M, mem, sh, ns, kd, cd) N (sl, nx, c, cr) (rn, rw_) (on_, ob)) : N 1377 ≤ 40 ∧ N 256 ≤ 32 ∧ (∀ j, N j ≤ 4096) := by
  rcases O.cs with ⟨-, -, -, -, rfl, -, -⟩ | ⟨-, -, q, -⟩
  · exact ⟨Nat.zero_le _, Nat.zero_le _, fun _ => Nat.zero_le _⟩
  · exact ⟨q.2.2.2.2.2.2.2.1, q.2.2.2.2.1, q.1⟩
theorem glueq {ρ : Type} {v : ρ} {f g : aH → Option (ρ × aH)} (C : CX h x (r, tl, tp, rf, ft, fp, sd) (M, mem, sh, ns, kd, cd) N (sl, nx, c, cr) (rn, rw_) (on_, ob)) (O : Ok (r, tl, tp, rf, ft, fp, sd) (M, mem, sh, ns, kd, cd) N (sl, nx, c, cr) (rn, rw_) (on_, ob)) (hc : f h = some (v, h)) (hm : ∃ h2, g h = some (v, h2) ∧ CM h2 (x + 107) (r, tl, tp, rf, ft, fp, sd) (M, mem, sh, ns, kd, cd) N (sl, nx, c, cr) (rn, rw_) (on_, ob) ∧ FM x h h2) : SM ρ x h f g := by
  obtain ⟨h2, e2, Q2, f2⟩ := hm
  exact ⟨v, h, h2, hc, e2, _, _, _, _, _, _, C.fm f2, Q2, O⟩
theorem Ok.r01 (O : Ok (r, tl, tp, rf, ft, fp, sd) (M, mem, sh, ns, kd, cd) N (sl, nx, c, cr) (rn, rw_) (on_, ob)) : r = 0 ∨ r = 1 := by
  rcases O.cs with q | q
  · exact Or.inl q.1
  · exact Or.inr q.1
theorem ix_not {p : Int32} {n : Nat} (hn : n < 2 ^ 31) (h : ¬ ∃ k, k < n ∧ p = nI k) : p < nI 0 ∨ nI n ≤ p := by
  rcases pk_ix p hn with q | q | q
  · exact Or.inl q
  · exact Or.inr q
  · exact absurd q h
theorem CX.ip (C : CX h x (r, tl, tp, rf, ft, fp, sd) (M, mem, sh, ns, kd, cd) N (sl, nx, c, cr) (rn, rw_) (on_, ob)) (hr : r = 1) {k : Nat} (hk : k < 16) : f_X11_isPointer x (nI k) h = some (nI 1, h) := c_isPointer_t C.1 (by rw [show hI h x 12 = nI r from C.2.1.1, hr]; decide) hk
theorem CM.ip (Q : CM h (x + 107) (r, tl, tp, rf, ft, fp, sd) (M, mem, sh, ns, kd, cd) N (sl, nx, c, cr) (rn, rw_) (on_, ob)) (hr : r = 1) {k : Nat} (hk : k < 16) : f_X12_isPointer (x + 107) (nI k).toInt64 h = some (nI 1, h) := m_isPointer_t Q.1 (by rw [show hI h (x + 107) 45 = nI r from Q.2.1.1, hr]; decide) hk
theorem CX.np (C : CX h x (r, tl, tp, rf, ft, fp, sd) (M, mem, sh, ns, kd, cd) N (sl, nx, c, cr) (rn, rw_) (on_, ob)) (O : Ok (r, tl, tp, rf, ft, fp, sd) (M, mem, sh, ns, kd, cd) N (sl, nx, c, cr) (rn, rw_) (on_, ob)) {p : Int32} (hp : ¬ (r = 1 ∧ ∃ k, k < 16 ∧ p = nI k)) : f_X11_isPointer x p h = some (nI 0, h) := by
  refine c_isPointer_f C.1 ?_
  rcases O.r01 with q | q
  · left; rw [show hI h x 12 = nI r from C.2.1.1, q]; rfl
  · right; exact ix_not (n := 16) (by omega) (fun z => hp ⟨q, z⟩)
theorem CM.np (Q : CM h (x + 107) (r, tl, tp, rf, ft, fp, sd) (M, mem, sh, ns, kd, cd) N (sl, nx, c, cr) (rn, rw_) (on_, ob)) (O : Ok (r, tl, tp, rf, ft, fp, sd) (M, mem, sh, ns, kd, cd) N (sl, nx, c, cr) (rn, rw_) (on_, ob)) {p : Int32} (hp : ¬ (r = 1 ∧ ∃ k, k < 16 ∧ p = nI k)) : f_X12_isPointer (x + 107) p.toInt64 h = some (nI 0, h) := by
  refine m_isPointer_f Q.1 ?_
  rcases O.r01 with q | q
  · left; rw [show hI h (x + 107) 45 = nI r from Q.2.1.1, q]; rfl
  · right; exact ix_not (n := 16) (by omega) (fun z => hp ⟨q, z⟩)
theorem Ok.sh4 (O : Ok (r, tl, tp, rf, ft, fp, sd) (M, mem, sh, ns, kd, cd) N (sl, nx, c, cr) (rn, rw_) (on_, ob)) : sh ≤ 4 := by
  rcases O.cs with ⟨-, -, -, rfl, -⟩ | ⟨-, q, -⟩
  · omega
  · exact q.2.2.2.2.1
theorem Ok.sh1 (O : Ok (r, tl, tp, rf, ft, fp, sd) (M, mem, sh, ns, kd, cd) N (sl, nx, c, cr) (rn, rw_) (on_, ob)) {k : Nat} (hk : k < sh) : r = 1 := by
  rcases O.cs with ⟨-, -, -, rfl, -⟩ | ⟨q, -⟩
  · omega
  · exact q
theorem CX.is (C : CX h x (r, tl, tp, rf, ft, fp, sd) (M, mem, sh, ns, kd, cd) N (sl, nx, c, cr) (rn, rw_) (on_, ob)) (O : Ok (r, tl, tp, rf, ft, fp, sd) (M, mem, sh, ns, kd, cd) N (sl, nx, c, cr) (rn, rw_) (on_, ob)) {k : Nat} (hk : k < sh) : f_X11_isShelf x (nI k) h = some (nI 1, h) := by
  have hr := O.sh1 hk
  obtain ⟨a, ha, h9, A, B⟩ := C.run hr
  exact c_isShelf_t C.1 (by rw [show hI h x 12 = nI r from C.2.1.1, hr]; decide) h9 A.k B.2.2.1 O.sh4 hk
theorem CX.nsh (C : CX h x (r, tl, tp, rf, ft, fp, sd) (M, mem, sh, ns, kd, cd) N (sl, nx, c, cr) (rn, rw_) (on_, ob)) (O : Ok (r, tl, tp, rf, ft, fp, sd) (M, mem, sh, ns, kd, cd) N (sl, nx, c, cr) (rn, rw_) (on_, ob)) {p : Int32} (hp : ¬ ∃ k, k < sh ∧ p = nI k) : f_X11_isShelf x p h = some (nI 0, h) := by
  rcases O.r01 with q | q
  · obtain ⟨a, ha, h9, A⟩ := C.h9
    exact c_isShelf_f C.1 h9 A.k (Or.inl (by rw [show hI h x 12 = nI r from C.2.1.1, q]; rfl))
  · obtain ⟨a, ha, h9, A, B⟩ := C.run q
    have := O.sh4
    exact c_isShelf_f C.1 h9 A.k (Or.inr (by rw [B.2.2.1]; exact ix_not (by omega) hp))
theorem CM.is (Q : CM h (x + 107) (r, tl, tp, rf, ft, fp, sd) (M, mem, sh, ns, kd, cd) N (sl, nx, c, cr) (rn, rw_) (on_, ob)) (O : Ok (r, tl, tp, rf, ft, fp, sd) (M, mem, sh, ns, kd, cd) N (sl, nx, c, cr) (rn, rw_) (on_, ob)) {k : Nat} (hk : k < sh) : f_X12_isShelf (x + 107) (nI k) h = some (nI 1, h) := by
  have T := Q.1
  have e1 : hI h (x + 107 + 28) 5 = nI sh := Q.2.2.1.2.2.1
  have := O.sh4
  simp (disch := omega) only [nm, bd_s, ko_K, ka_K, koK_t, kaK_t, kr_s, kn_s, kn_n, hK_sI, hR_sI, hK_sL, hR_sL, hI_sL, hL_sI, hL_sL, hI_sI, hN_sI, hN_sL, ch_G, ch_T, nb_0, nb_1, zb_G, d_T, d_F, d_eT, d_eF, b2i_t, b2i_f, tn_nI, fa_lit, fa_litL, m1_e, nI_add, pk_mul, pk_sub, nI_leI, nI_ltI, nI_eq, le_T, le_F, lt_T, lt_F, eq_T, eq_F, if_pos, if_neg, m1_le, m1_lt', m1_gt, m1_le', m1_eq, m1_qe, b2i_eq0, in_N, in_n, in_I, ↓reduceIte, Bool.true_eq_false, Bool.false_eq_true, reduceCtorEq, decide_eq_true_eq, decide_eq_false_iff_not, Nat.not_lt, Nat.not_le, not_true_eq_false, not_false_eq_true, true_and, and_true, and_self, f_X12_isShelf, f_X12_shelfMany, T.k, T.r37, T.k37, e1, b2i_d]
theorem CM.nsh (Q : CM h (x + 107) (r, tl, tp, rf, ft, fp, sd) (M, mem, sh, ns, kd, cd) N (sl, nx, c, cr) (rn, rw_) (on_, ob)) (O : Ok (r, tl, tp, rf, ft, fp, sd) (M, mem, sh, ns, kd, cd) N (sl, nx, c, cr) (rn, rw_) (on_, ob)) {p : Int32} (hp : ¬ ∃ k, k < sh ∧ p = nI k) : f_X12_isShelf (x + 107) p h = some (nI 0, h) := by
  have T := Q.1
  have e1 : hI h (x + 107 + 28) 5 = nI sh := Q.2.2.1.2.2.1
  have := O.sh4
  rcases ix_not (by omega) hp with q | q
  · simp (disch := omega) only [nm, bd_s, ko_K, ka_K, koK_t, kaK_t, kr_s, kn_s, kn_n, hK_sI, hR_sI, hK_sL, hR_sL, hI_sL, hL_sI, hL_sL, hI_sI, hN_sI, hN_sL, ch_G, ch_T, nb_0, nb_1, zb_G, d_T, d_F, d_eT, d_eF, b2i_t, b2i_f, tn_nI, fa_lit, fa_litL, m1_e, nI_add, pk_mul, pk_sub, nI_leI, nI_ltI, nI_eq, le_T, le_F, lt_T, lt_F, eq_T, eq_F, if_pos, if_neg, m1_le, m1_lt', m1_gt, m1_le', m1_eq, m1_qe, b2i_eq0, in_N, in_n, in_I, ↓reduceIte, Bool.true_eq_false, Bool.false_eq_true, reduceCtorEq, decide_eq_true_eq, decide_eq_false_iff_not, Nat.not_lt, Nat.not_le, not_true_eq_false, not_false_eq_true, true_and, and_true, and_self, f_X12_isShelf, f_X12_shelfMany, T.k, T.r37, T.k37, e1, ng_lt' q, ng_le' q, ng_le q, ng_lt q, ng_eq q, ng_qe q, in_g q, in_gN q]
  · simp (disch := omega) only [nm, bd_s, ko_K, ka_K, koK_t, kaK_t, kr_s, kn_s, kn_n, hK_sI, hR_sI, hK_sL, hR_sL, hI_sL, hL_sI, hL_sL, hI_sI, hN_sI, hN_sL, ch_G, ch_T, nb_0, nb_1, zb_G, d_T, d_F, d_eT, d_eF, b2i_t, b2i_f, tn_nI, fa_lit, fa_litL, m1_e, nI_add, pk_mul, pk_sub, nI_leI, nI_ltI, nI_eq, le_T, le_F, lt_T, lt_F, eq_T, eq_F, if_pos, if_neg, m1_le, m1_lt', m1_gt, m1_le', m1_eq, m1_qe, b2i_eq0, in_N, in_n, in_I, ↓reduceIte, Bool.true_eq_false, Bool.false_eq_true, reduceCtorEq, decide_eq_true_eq, decide_eq_false_iff_not, Nat.not_lt, Nat.not_le, not_true_eq_false, not_false_eq_true, true_and, and_true, and_self, f_X12_isShelf, f_X12_shelfMany, T.k, T.r37, T.k37, e1, in_b q]
theorem okN.fl (q : okN M mem sh N) {k : Nat} (hk : k < 16) : N (8 * k) ≤ 1 := q.2.2.1 k hk
theorem flag01 {v : Nat} (h : v ≤ 1) : nI v = 0 ∨ nI v = 1 := by
  rcases (show v = 0 ∨ v = 1 by omega) with rfl | rfl
  · exact Or.inl rfl
  · exact Or.inr rfl
theorem S_pointer (C : CX h x (r, tl, tp, rf, ft, fp, sd) (M, mem, sh, ns, kd, cd) N (sl, nx, c, cr) (rn, rw_) (on_, ob)) (Q : CM h (x + 107) (r, tl, tp, rf, ft, fp, sd) (M, mem, sh, ns, kd, cd) N (sl, nx, c, cr) (rn, rw_) (on_, ob)) (O : Ok (r, tl, tp, rf, ft, fp, sd) (M, mem, sh, ns, kd, cd) N (sl, nx, c, cr) (rn, rw_) (on_, ob)) (p w : Int32) : SM Int32 x h (f_X11_pointer x p w) (f_X12_pointer (x + 107) p w) := by
  have S := C.1
  have W := S.now
  have T := Q.1
  have R := C.2.2.2.1
  by_cases hp : r = 1 ∧ ∃ k, k < 16 ∧ p = nI k
  · obtain ⟨hr, k, hk, rfl⟩ := hp
    obtain ⟨a, ha, h9, A, B⟩ := C.run hr
    have on := (O.cs.resolve_left (fun q => by omega)).2.2.1
    have fl := on.fl hk
    obtain ⟨p0, p1, p2, p3, p4, p5, p6, p7⟩ := R.cl (show k < 32 by omega) fl
    have t1 := p_tell (W.kp (k := k) (by omega)) (by rw [p1]; exact flag01 fl) w (nI M)
    have t2 := m_told T (k := 8 * k) (by omega) w
    rw [p1, p2, p3, p4, p5, p6, p7] at t1
    rw [show hI h (x + 107 + 28) 4 = nI M from Q.2.2.1.2.1, Q.n (j := 8 * k) (by omega) (by omega), Q.n (j := 8 * k + 1) (by omega) (by omega), Q.n (j := 8 * k + 2) (by omega) (by omega), Q.n (j := 8 * k + 3) (by omega) (by omega), Q.n (j := 8 * k + 4) (by omega) (by omega), Q.n (j := 8 * k + 5) (by omega) (by omega), Q.n (j := 8 * k + 6) (by omega) (by omega)] at t2
    have c1 := C.ip hr hk
    have c2 := Q.ip hr hk
    refine glue0 C Q O (v := telI (nI M) (nI (N (8 * k))) (nI (N (8 * k + 1))) (nI (N (8 * k + 2))) (nI (N (8 * k + 3))) (nI (N (8 * k + 4))) (nI (N (8 * k + 5))) (nI (N (8 * k + 6))) w) ?_ ?_
    · simp (disch := omega) only [nm, bd_s, ko_K, ka_K, koK_t, kaK_t, kr_s, kn_s, kn_n, hK_sI, hR_sI, hK_sL, hR_sL, hI_sL, hL_sI, hL_sL, hI_sI, hN_sI, hN_sL, ch_G, ch_T, nb_0, nb_1, zb_G, d_T, d_F, d_eT, d_eF, b2i_t, b2i_f, tn_nI, fa_lit, fa_litL, m1_e, nI_add, pk_mul, pk_sub, nI_leI, nI_ltI, nI_eq, le_T, le_F, lt_T, lt_F, eq_T, eq_F, if_pos, if_neg, m1_le, m1_lt', m1_gt, m1_le', m1_eq, m1_qe, b2i_eq0, in_N, in_n, in_I, ↓reduceIte, Bool.true_eq_false, Bool.false_eq_true, reduceCtorEq, decide_eq_true_eq, decide_eq_false_iff_not, Nat.not_lt, Nat.not_le, not_true_eq_false, not_false_eq_true, true_and, and_true, and_self, f_X11_pointer_32, f_X11_pointer, S.k0, S.r0_2, W.k, W.r0, W.k1, W.rp, W.kp, c1, h9, A.k, B.2.1, t1]
    · simp (disch := omega) only [nm, bd_s, ko_K, ka_K, koK_t, kaK_t, kr_s, kn_s, kn_n, hK_sI, hR_sI, hK_sL, hR_sL, hI_sL, hL_sI, hL_sL, hI_sI, hN_sI, hN_sL, ch_G, ch_T, nb_0, nb_1, zb_G, d_T, d_F, d_eT, d_eF, b2i_t, b2i_f, tn_nI, fa_lit, fa_litL, m1_e, nI_add, pk_mul, pk_sub, nI_leI, nI_ltI, nI_eq, le_T, le_F, lt_T, lt_F, eq_T, eq_F, if_pos, if_neg, m1_le, m1_lt', m1_gt, m1_le', m1_eq, m1_qe, b2i_eq0, in_N, in_n, in_I, ↓reduceIte, Bool.true_eq_false, Bool.false_eq_true, reduceCtorEq, decide_eq_true_eq, decide_eq_false_iff_not, Nat.not_lt, Nat.not_le, not_true_eq_false, not_false_eq_true, true_and, and_true, and_self, f_X12_pointer_22, f_X12_pointer, T.k, c2, t2]
  · have c1 := C.np O hp
    have c2 := Q.np O hp
    refine glue0 C Q O (v := -nI 1) ?_ ?_
    · simp (disch := omega) only [nm, bd_s, ko_K, ka_K, koK_t, kaK_t, kr_s, kn_s, kn_n, hK_sI, hR_sI, hK_sL, hR_sL, hI_sL, hL_sI, hL_sL, hI_sI, hN_sI, hN_sL, ch_G, ch_T, nb_0, nb_1, zb_G, d_T, d_F, d_eT, d_eF, b2i_t, b2i_f, tn_nI, fa_lit, fa_litL, m1_e, nI_add, pk_mul, pk_sub, nI_leI, nI_ltI, nI_eq, le_T, le_F, lt_T, lt_F, eq_T, eq_F, if_pos, if_neg, m1_le, m1_lt', m1_gt, m1_le', m1_eq, m1_qe, b2i_eq0, in_N, in_n, in_I, ↓reduceIte, Bool.true_eq_false, Bool.false_eq_true, reduceCtorEq, decide_eq_true_eq, decide_eq_false_iff_not, Nat.not_lt, Nat.not_le, not_true_eq_false, not_false_eq_true, true_and, and_true, and_self, f_X11_pointer_32, f_X11_pointer, S.k0, c1]
    · simp (disch := omega) only [nm, bd_s, ko_K, ka_K, koK_t, kaK_t, kr_s, kn_s, kn_n, hK_sI, hR_sI, hK_sL, hR_sL, hI_sL, hL_sI, hL_sL, hI_sI, hN_sI, hN_sL, ch_G, ch_T, nb_0, nb_1, zb_G, d_T, d_F, d_eT, d_eF, b2i_t, b2i_f, tn_nI, fa_lit, fa_litL, m1_e, nI_add, pk_mul, pk_sub, nI_leI, nI_ltI, nI_eq, le_T, le_F, lt_T, lt_F, eq_T, eq_F, if_pos, if_neg, m1_le, m1_lt', m1_gt, m1_le', m1_eq, m1_qe, b2i_eq0, in_N, in_n, in_I, ↓reduceIte, Bool.true_eq_false, Bool.false_eq_true, reduceCtorEq, decide_eq_true_eq, decide_eq_false_iff_not, Nat.not_lt, Nat.not_le, not_true_eq_false, not_false_eq_true, true_and, and_true, and_self, f_X12_pointer_22, f_X12_pointer, T.k, c2]
theorem S_shelf (C : CX h x (r, tl, tp, rf, ft, fp, sd) (M, mem, sh, ns, kd, cd) N (sl, nx, c, cr) (rn, rw_) (on_, ob)) (Q : CM h (x + 107) (r, tl, tp, rf, ft, fp, sd) (M, mem, sh, ns, kd, cd) N (sl, nx, c, cr) (rn, rw_) (on_, ob)) (O : Ok (r, tl, tp, rf, ft, fp, sd) (M, mem, sh, ns, kd, cd) N (sl, nx, c, cr) (rn, rw_) (on_, ob)) (p q w : Int32) : SM Int32 x h (f_X11_shelf x p q w) (f_X12_shelf (x + 107) p q w) := by
  have S := C.1
  have W := S.now
  have T := Q.1
  have R := C.2.2.2.1
  have s4 := O.sh4
  by_cases hp : ∃ k, k < sh ∧ p = nI k
  · obtain ⟨k, hk, rfl⟩ := hp
    have hr := O.sh1 hk
    obtain ⟨a, ha, h9, A, B⟩ := C.run hr
    have on := (O.cs.resolve_left (fun q => by omega)).2.2.1
    have c1 := C.is O hk
    have c2 := Q.is O hk
    rcases pk_ix q (n := 4) (by omega) with hq | hq | ⟨j, hj, rfl⟩
    · refine glue0 C Q O (v := -nI 1) ?_ ?_
      · simp (disch := omega) only [nm, bd_s, ko_K, ka_K, koK_t, kaK_t, kr_s, kn_s, kn_n, hK_sI, hR_sI, hK_sL, hR_sL, hI_sL, hL_sI, hL_sL, hI_sI, hN_sI, hN_sL, ch_G, ch_T, nb_0, nb_1, zb_G, d_T, d_F, d_eT, d_eF, b2i_t, b2i_f, tn_nI, fa_lit, fa_litL, m1_e, nI_add, pk_mul, pk_sub, nI_leI, nI_ltI, nI_eq, le_T, le_F, lt_T, lt_F, eq_T, eq_F, if_pos, if_neg, m1_le, m1_lt', m1_gt, m1_le', m1_eq, m1_qe, b2i_eq0, in_N, in_n, in_I, ↓reduceIte, Bool.true_eq_false, Bool.false_eq_true, reduceCtorEq, decide_eq_true_eq, decide_eq_false_iff_not, Nat.not_lt, Nat.not_le, not_true_eq_false, not_false_eq_true, true_and, and_true, and_self, f_X11_shelf_51, f_X11_shelf, f_X11_isPlace_22, f_X11_isPlace_21, f_X11_isPlace, S.k0, c1, ng_lt' hq, ng_le' hq, ng_le hq, ng_lt hq, ng_eq hq, ng_qe hq, in_g hq, in_gN hq]
      · simp (disch := omega) only [nm, bd_s, ko_K, ka_K, koK_t, kaK_t, kr_s, kn_s, kn_n, hK_sI, hR_sI, hK_sL, hR_sL, hI_sL, hL_sI, hL_sL, hI_sI, hN_sI, hN_sL, ch_G, ch_T, nb_0, nb_1, zb_G, d_T, d_F, d_eT, d_eF, b2i_t, b2i_f, tn_nI, fa_lit, fa_litL, m1_e, nI_add, pk_mul, pk_sub, nI_leI, nI_ltI, nI_eq, le_T, le_F, lt_T, lt_F, eq_T, eq_F, if_pos, if_neg, m1_le, m1_lt', m1_gt, m1_le', m1_eq, m1_qe, b2i_eq0, in_N, in_n, in_I, ↓reduceIte, Bool.true_eq_false, Bool.false_eq_true, reduceCtorEq, decide_eq_true_eq, decide_eq_false_iff_not, Nat.not_lt, Nat.not_le, not_true_eq_false, not_false_eq_true, true_and, and_true, and_self, f_X12_shelf_35, f_X12_shelf, T.k, c2, ng_lt' hq, ng_le' hq, ng_le hq, ng_lt hq, ng_eq hq, ng_qe hq, in_g hq, in_gN hq]
    · refine glue0 C Q O (v := -nI 1) ?_ ?_
      · simp (disch := omega) only [nm, bd_s, ko_K, ka_K, koK_t, kaK_t, kr_s, kn_s, kn_n, hK_sI, hR_sI, hK_sL, hR_sL, hI_sL, hL_sI, hL_sL, hI_sI, hN_sI, hN_sL, ch_G, ch_T, nb_0, nb_1, zb_G, d_T, d_F, d_eT, d_eF, b2i_t, b2i_f, tn_nI, fa_lit, fa_litL, m1_e, nI_add, pk_mul, pk_sub, nI_leI, nI_ltI, nI_eq, le_T, le_F, lt_T, lt_F, eq_T, eq_F, if_pos, if_neg, m1_le, m1_lt', m1_gt, m1_le', m1_eq, m1_qe, b2i_eq0, in_N, in_n, in_I, ↓reduceIte, Bool.true_eq_false, Bool.false_eq_true, reduceCtorEq, decide_eq_true_eq, decide_eq_false_iff_not, Nat.not_lt, Nat.not_le, not_true_eq_false, not_false_eq_true, true_and, and_true, and_self, f_X11_shelf_51, f_X11_shelf, f_X11_isPlace_22, f_X11_isPlace_21, f_X11_isPlace, S.k0, c1, bg_lt hq, bg_ge hq]
      · simp (disch := omega) only [nm, bd_s, ko_K, ka_K, koK_t, kaK_t, kr_s, kn_s, kn_n, hK_sI, hR_sI, hK_sL, hR_sL, hI_sL, hL_sI, hL_sL, hI_sI, hN_sI, hN_sL, ch_G, ch_T, nb_0, nb_1, zb_G, d_T, d_F, d_eT, d_eF, b2i_t, b2i_f, tn_nI, fa_lit, fa_litL, m1_e, nI_add, pk_mul, pk_sub, nI_leI, nI_ltI, nI_eq, le_T, le_F, lt_T, lt_F, eq_T, eq_F, if_pos, if_neg, m1_le, m1_lt', m1_gt, m1_le', m1_eq, m1_qe, b2i_eq0, in_N, in_n, in_I, ↓reduceIte, Bool.true_eq_false, Bool.false_eq_true, reduceCtorEq, decide_eq_true_eq, decide_eq_false_iff_not, Nat.not_lt, Nat.not_le, not_true_eq_false, not_false_eq_true, true_and, and_true, and_self, f_X12_shelf_35, f_X12_shelf, T.k, c2, in_bN hq]
    · have e1 : 16 + k * 4 + j = 16 + (4 * k + j) := by omega
      have e2 : 128 + 8 * (4 * k + j) = 8 * (16 + (4 * k + j)) := by omega
      have i32 : 16 + (4 * k + j) < 32 := by omega
      generalize 16 + (4 * k + j) = i at e1 e2 i32
      by_cases fl : N (8 * i) = 2
      · have p0 := R.e i32 fl
        have m0 := Q.e i32 fl
        refine glue0 C Q O (v := -nI 1) ?_ ?_
        · simp (disch := omega) only [nm, bd_s, ko_K, ka_K, koK_t, kaK_t, kr_s, kn_s, kn_n, hK_sI, hR_sI, hK_sL, hR_sL, hI_sL, hL_sI, hL_sL, hI_sI, hN_sI, hN_sL, ch_G, ch_T, nb_0, nb_1, zb_G, d_T, d_F, d_eT, d_eF, b2i_t, b2i_f, tn_nI, fa_lit, fa_litL, m1_e, nI_add, pk_mul, pk_sub, nI_leI, nI_ltI, nI_eq, le_T, le_F, lt_T, lt_F, eq_T, eq_F, if_pos, if_neg, m1_le, m1_lt', m1_gt, m1_le', m1_eq, m1_qe, b2i_eq0, in_N, in_n, in_I, ↓reduceIte, Bool.true_eq_false, Bool.false_eq_true, reduceCtorEq, decide_eq_true_eq, decide_eq_false_iff_not, Nat.not_lt, Nat.not_le, not_true_eq_false, not_false_eq_true, true_and, and_true, and_self, f_X11_shelf_51, f_X11_shelf, f_X11_isPlace_22, f_X11_isPlace_21, f_X11_isPlace, f_X11_placeIndex, S.k0, S.r0_2, W.k, W.r0, W.k1, W.rp, W.kp, c1, h9, A.k, B.2.1, e1, p0]
        · simp (disch := omega) only [nm, bd_s, ko_K, ka_K, koK_t, kaK_t, kr_s, kn_s, kn_n, hK_sI, hR_sI, hK_sL, hR_sL, hI_sL, hL_sI, hL_sL, hI_sI, hN_sI, hN_sL, ch_G, ch_T, nb_0, nb_1, zb_G, d_T, d_F, d_eT, d_eF, b2i_t, b2i_f, tn_nI, fa_lit, fa_litL, m1_e, nI_add, pk_mul, pk_sub, nI_leI, nI_ltI, nI_eq, le_T, le_F, lt_T, lt_F, eq_T, eq_F, if_pos, if_neg, m1_le, m1_lt', m1_gt, m1_le', m1_eq, m1_qe, b2i_eq0, in_N, in_n, in_I, ↓reduceIte, Bool.true_eq_false, Bool.false_eq_true, reduceCtorEq, decide_eq_true_eq, decide_eq_false_iff_not, Nat.not_lt, Nat.not_le, not_true_eq_false, not_false_eq_true, true_and, and_true, and_self, f_X12_shelf_35, f_X12_shelf, f_X12_shelfAt, T.k, T.r47, T.k47, c2, e2, m0, b2i_d]
      · have fl : N (8 * i) ≤ 1 := by have := (on.2.1 i i32).1; omega
        obtain ⟨p0, p1, p2, p3, p4, p5, p6, p7⟩ := R.cl i32 fl
        have t1 := p_tell (W.kp (k := i) i32) (by rw [p1]; exact flag01 fl) w (nI M)
        have t2 := m_told T (k := 8 * i) (by omega) w
        rw [p1, p2, p3, p4, p5, p6, p7] at t1
        have m0 := Q.n (j := 8 * i) (by omega) (by omega)
        rw [show hI h (x + 107 + 28) 4 = nI M from Q.2.2.1.2.1, m0, Q.n (j := 8 * i + 1) (by omega) (by omega), Q.n (j := 8 * i + 2) (by omega) (by omega), Q.n (j := 8 * i + 3) (by omega) (by omega), Q.n (j := 8 * i + 4) (by omega) (by omega), Q.n (j := 8 * i + 5) (by omega) (by omega), Q.n (j := 8 * i + 6) (by omega) (by omega)] at t2
        refine glue0 C Q O (v := telI (nI M) (nI (N (8 * i))) (nI (N (8 * i + 1))) (nI (N (8 * i + 2))) (nI (N (8 * i + 3))) (nI (N (8 * i + 4))) (nI (N (8 * i + 5))) (nI (N (8 * i + 6))) w) ?_ ?_
        · simp (disch := omega) only [nm, bd_s, ko_K, ka_K, koK_t, kaK_t, kr_s, kn_s, kn_n, hK_sI, hR_sI, hK_sL, hR_sL, hI_sL, hL_sI, hL_sL, hI_sI, hN_sI, hN_sL, ch_G, ch_T, nb_0, nb_1, zb_G, d_T, d_F, d_eT, d_eF, b2i_t, b2i_f, tn_nI, fa_lit, fa_litL, m1_e, nI_add, pk_mul, pk_sub, nI_leI, nI_ltI, nI_eq, le_T, le_F, lt_T, lt_F, eq_T, eq_F, if_pos, if_neg, m1_le, m1_lt', m1_gt, m1_le', m1_eq, m1_qe, b2i_eq0, in_N, in_n, in_I, ↓reduceIte, Bool.true_eq_false, Bool.false_eq_true, reduceCtorEq, decide_eq_true_eq, decide_eq_false_iff_not, Nat.not_lt, Nat.not_le, not_true_eq_false, not_false_eq_true, true_and, and_true, and_self, f_X11_shelf_51, f_X11_shelf, f_X11_isPlace_22, f_X11_isPlace_21, f_X11_isPlace, f_X11_placeIndex, S.k0, S.r0_2, W.k, W.r0, W.k1, W.rp, W.kp, c1, h9, A.k, B.2.1, e1, p0, t1]
        · simp (disch := omega) only [nm, bd_s, ko_K, ka_K, koK_t, kaK_t, kr_s, kn_s, kn_n, hK_sI, hR_sI, hK_sL, hR_sL, hI_sL, hL_sI, hL_sL, hI_sI, hN_sI, hN_sL, ch_G, ch_T, nb_0, nb_1, zb_G, d_T, d_F, d_eT, d_eF, b2i_t, b2i_f, tn_nI, fa_lit, fa_litL, m1_e, nI_add, pk_mul, pk_sub, nI_leI, nI_ltI, nI_eq, le_T, le_F, lt_T, lt_F, eq_T, eq_F, if_pos, if_neg, m1_le, m1_lt', m1_gt, m1_le', m1_eq, m1_qe, b2i_eq0, in_N, in_n, in_I, ↓reduceIte, Bool.true_eq_false, Bool.false_eq_true, reduceCtorEq, decide_eq_true_eq, decide_eq_false_iff_not, Nat.not_lt, Nat.not_le, not_true_eq_false, not_false_eq_true, true_and, and_true, and_self, f_X12_shelf_35, f_X12_shelf, f_X12_shelfAt, T.k, T.r47, T.k47, c2, e2, m0, t2, b2i_d]
  · have c1 := C.nsh O hp
    have c2 := Q.nsh O hp
    refine glue0 C Q O (v := -nI 1) ?_ ?_
    · simp (disch := omega) only [nm, bd_s, ko_K, ka_K, koK_t, kaK_t, kr_s, kn_s, kn_n, hK_sI, hR_sI, hK_sL, hR_sL, hI_sL, hL_sI, hL_sL, hI_sI, hN_sI, hN_sL, ch_G, ch_T, nb_0, nb_1, zb_G, d_T, d_F, d_eT, d_eF, b2i_t, b2i_f, tn_nI, fa_lit, fa_litL, m1_e, nI_add, pk_mul, pk_sub, nI_leI, nI_ltI, nI_eq, le_T, le_F, lt_T, lt_F, eq_T, eq_F, if_pos, if_neg, m1_le, m1_lt', m1_gt, m1_le', m1_eq, m1_qe, b2i_eq0, in_N, in_n, in_I, ↓reduceIte, Bool.true_eq_false, Bool.false_eq_true, reduceCtorEq, decide_eq_true_eq, decide_eq_false_iff_not, Nat.not_lt, Nat.not_le, not_true_eq_false, not_false_eq_true, true_and, and_true, and_self, f_X11_shelf_51, f_X11_shelf, f_X11_isPlace_22, f_X11_isPlace_21, f_X11_isPlace, S.k0, c1]
    · simp (disch := omega) only [nm, bd_s, ko_K, ka_K, koK_t, kaK_t, kr_s, kn_s, kn_n, hK_sI, hR_sI, hK_sL, hR_sL, hI_sL, hL_sI, hL_sL, hI_sI, hN_sI, hN_sL, ch_G, ch_T, nb_0, nb_1, zb_G, d_T, d_F, d_eT, d_eF, b2i_t, b2i_f, tn_nI, fa_lit, fa_litL, m1_e, nI_add, pk_mul, pk_sub, nI_leI, nI_ltI, nI_eq, le_T, le_F, lt_T, lt_F, eq_T, eq_F, if_pos, if_neg, m1_le, m1_lt', m1_gt, m1_le', m1_eq, m1_qe, b2i_eq0, in_N, in_n, in_I, ↓reduceIte, Bool.true_eq_false, Bool.false_eq_true, reduceCtorEq, decide_eq_true_eq, decide_eq_false_iff_not, Nat.not_lt, Nat.not_le, not_true_eq_false, not_false_eq_true, true_and, and_true, and_self, f_X12_shelf_35, f_X12_shelf, T.k, c2]
theorem S_object (C : CX h x (r, tl, tp, rf, ft, fp, sd) (M, mem, sh, ns, kd, cd) N (sl, nx, c, cr) (rn, rw_) (on_, ob)) (Q : CM h (x + 107) (r, tl, tp, rf, ft, fp, sd) (M, mem, sh, ns, kd, cd) N (sl, nx, c, cr) (rn, rw_) (on_, ob)) (O : Ok (r, tl, tp, rf, ft, fp, sd) (M, mem, sh, ns, kd, cd) N (sl, nx, c, cr) (rn, rw_) (on_, ob)) (p w : Int32) : SM Int32 x h (f_X11_object x p w) (f_X12_object (x + 107) p w) := by
  have S := C.1
  have W := S.now
  have T := Q.1
  have R := C.2.2.2.1
  obtain ⟨b1, b2, b3⟩ := O.n0
  have e0 : hI h x 12 = nI r := C.2.1.1
  have e1 : hI h (x + 3) 6 = nI (N 256) := R.2.1
  have e2 : hI h (x + 107 + 34) 256 = nI (N 256) := Q.n (by omega) (by omega)
  by_cases hp : ∃ k, k < N 256 ∧ p = nI k
  · obtain ⟨k, hk, rfl⟩ := hp
    have hr : r = 1 := by
      rcases O.cs with ⟨-, -, -, -, rfl, -⟩ | ⟨q, -⟩
      · exact absurd hk (Nat.not_lt_zero _)
      · exact q
    subst hr
    obtain ⟨o1, o2, o3⟩ := R.2.2.1 k hk (by omega)
    have q1 : hI h (x + 107 + 34) (257 + 3 * k) = nI (N (257 + 3 * k)) := Q.n (by omega) (by omega)
    have q2 : hI h (x + 107 + 34) (257 + 3 * k + 1) = nI (N (257 + 3 * k + 1)) := Q.n (by omega) (by omega)
    have q3 : hI h (x + 107 + 34) (257 + 3 * k + 2) = nI (N (257 + 3 * k + 2)) := Q.n (by omega) (by omega)
    rw [show 258 + 3 * k = 257 + 3 * k + 1 by omega] at o2
    rw [show 259 + 3 * k = 257 + 3 * k + 2 by omega] at o3
    rcases pk_ix w (n := 3) (by omega) with hw | hw | ⟨j, hj, rfl⟩
    · refine glue0 C Q O (v := -nI 1) ?_ ?_
      · simp (disch := omega) only [nm, bd_s, ko_K, ka_K, koK_t, kaK_t, kr_s, kn_s, kn_n, hK_sI, hR_sI, hK_sL, hR_sL, hI_sL, hL_sI, hL_sL, hI_sI, hN_sI, hN_sL, ch_G, ch_T, nb_0, nb_1, zb_G, d_T, d_F, d_eT, d_eF, b2i_t, b2i_f, tn_nI, fa_lit, fa_litL, m1_e, nI_add, pk_mul, pk_sub, nI_leI, nI_ltI, nI_eq, le_T, le_F, lt_T, lt_F, eq_T, eq_F, if_pos, if_neg, m1_le, m1_lt', m1_gt, m1_le', m1_eq, m1_qe, b2i_eq0, in_N, in_n, in_I, ↓reduceIte, Bool.true_eq_false, Bool.false_eq_true, reduceCtorEq, decide_eq_true_eq, decide_eq_false_iff_not, Nat.not_lt, Nat.not_le, not_true_eq_false, not_false_eq_true, true_and, and_true, and_self, f_X11_object_22, f_X11_object_82, f_X11_object, S.k0, S.r0_2, W.k, e0, e1, ng_lt' hw, ng_le' hw, ng_le hw, ng_lt hw, ng_eq hw, ng_qe hw, in_g hw, in_gN hw]
      · simp (disch := omega) only [nm, bd_s, ko_K, ka_K, koK_t, kaK_t, kr_s, kn_s, kn_n, hK_sI, hR_sI, hK_sL, hR_sL, hI_sL, hL_sI, hL_sL, hI_sI, hN_sI, hN_sL, ch_G, ch_T, nb_0, nb_1, zb_G, d_T, d_F, d_eT, d_eF, b2i_t, b2i_f, tn_nI, fa_lit, fa_litL, m1_e, nI_add, pk_mul, pk_sub, nI_leI, nI_ltI, nI_eq, le_T, le_F, lt_T, lt_F, eq_T, eq_F, if_pos, if_neg, m1_le, m1_lt', m1_gt, m1_le', m1_eq, m1_qe, b2i_eq0, in_N, in_n, in_I, ↓reduceIte, Bool.true_eq_false, Bool.false_eq_true, reduceCtorEq, decide_eq_true_eq, decide_eq_false_iff_not, Nat.not_lt, Nat.not_le, not_true_eq_false, not_false_eq_true, true_and, and_true, and_self, f_X12_object_38, f_X12_object_37, f_X12_object, f_X12_objectMany, T.k, T.r47, T.k47, e2, ng_lt' hw, ng_le' hw, ng_le hw, ng_lt hw, ng_eq hw, ng_qe hw, in_g hw, in_gN hw, b2i_d]
    · refine glue0 C Q O (v := -nI 1) ?_ ?_
      · simp (disch := omega) only [nm, bd_s, ko_K, ka_K, koK_t, kaK_t, kr_s, kn_s, kn_n, hK_sI, hR_sI, hK_sL, hR_sL, hI_sL, hL_sI, hL_sL, hI_sI, hN_sI, hN_sL, ch_G, ch_T, nb_0, nb_1, zb_G, d_T, d_F, d_eT, d_eF, b2i_t, b2i_f, tn_nI, fa_lit, fa_litL, m1_e, nI_add, pk_mul, pk_sub, nI_leI, nI_ltI, nI_eq, le_T, le_F, lt_T, lt_F, eq_T, eq_F, if_pos, if_neg, m1_le, m1_lt', m1_gt, m1_le', m1_eq, m1_qe, b2i_eq0, in_N, in_n, in_I, ↓reduceIte, Bool.true_eq_false, Bool.false_eq_true, reduceCtorEq, decide_eq_true_eq, decide_eq_false_iff_not, Nat.not_lt, Nat.not_le, not_true_eq_false, not_false_eq_true, true_and, and_true, and_self, f_X11_object_22, f_X11_object_82, f_X11_object, S.k0, S.r0_2, W.k, e0, e1, bg_lt hw, bg_gt hw]
      · simp (disch := omega) only [nm, bd_s, ko_K, ka_K, koK_t, kaK_t, kr_s, kn_s, kn_n, hK_sI, hR_sI, hK_sL, hR_sL, hI_sL, hL_sI, hL_sL, hI_sI, hN_sI, hN_sL, ch_G, ch_T, nb_0, nb_1, zb_G, d_T, d_F, d_eT, d_eF, b2i_t, b2i_f, tn_nI, fa_lit, fa_litL, m1_e, nI_add, pk_mul, pk_sub, nI_leI, nI_ltI, nI_eq, le_T, le_F, lt_T, lt_F, eq_T, eq_F, if_pos, if_neg, m1_le, m1_lt', m1_gt, m1_le', m1_eq, m1_qe, b2i_eq0, in_N, in_n, in_I, ↓reduceIte, Bool.true_eq_false, Bool.false_eq_true, reduceCtorEq, decide_eq_true_eq, decide_eq_false_iff_not, Nat.not_lt, Nat.not_le, not_true_eq_false, not_false_eq_true, true_and, and_true, and_self, f_X12_object_38, f_X12_object_37, f_X12_object, f_X12_objectMany, T.k, T.r47, T.k47, e2, in_bN hw, b2i_d]
    · rcases (show j = 0 ∨ j = 1 ∨ j = 2 by omega) with rfl | rfl | rfl
      · refine glue0 C Q O (v := nI (N (257 + 3 * k))) ?_ ?_
        · simp (disch := omega) only [nm, bd_s, ko_K, ka_K, koK_t, kaK_t, kr_s, kn_s, kn_n, hK_sI, hR_sI, hK_sL, hR_sL, hI_sL, hL_sI, hL_sL, hI_sI, hN_sI, hN_sL, ch_G, ch_T, nb_0, nb_1, zb_G, d_T, d_F, d_eT, d_eF, b2i_t, b2i_f, tn_nI, fa_lit, fa_litL, m1_e, nI_add, pk_mul, pk_sub, nI_leI, nI_ltI, nI_eq, le_T, le_F, lt_T, lt_F, eq_T, eq_F, if_pos, if_neg, m1_le, m1_lt', m1_gt, m1_le', m1_eq, m1_qe, b2i_eq0, in_N, in_n, in_I, ↓reduceIte, Bool.true_eq_false, Bool.false_eq_true, reduceCtorEq, decide_eq_true_eq, decide_eq_false_iff_not, Nat.not_lt, Nat.not_le, not_true_eq_false, not_false_eq_true, true_and, and_true, and_self, f_X11_object_22, f_X11_object_82, f_X11_object, S.k0, S.r0_2, W.k, W.r1, W.k2, e0, e1, o1]
        · simp (disch := omega) only [nm, bd_s, ko_K, ka_K, koK_t, kaK_t, kr_s, kn_s, kn_n, hK_sI, hR_sI, hK_sL, hR_sL, hI_sL, hL_sI, hL_sL, hI_sI, hN_sI, hN_sL, ch_G, ch_T, nb_0, nb_1, zb_G, d_T, d_F, d_eT, d_eF, b2i_t, b2i_f, tn_nI, fa_lit, fa_litL, m1_e, nI_add, pk_mul, pk_sub, nI_leI, nI_ltI, nI_eq, le_T, le_F, lt_T, lt_F, eq_T, eq_F, if_pos, if_neg, m1_le, m1_lt', m1_gt, m1_le', m1_eq, m1_qe, b2i_eq0, in_N, in_n, in_I, ↓reduceIte, Bool.true_eq_false, Bool.false_eq_true, reduceCtorEq, decide_eq_true_eq, decide_eq_false_iff_not, Nat.not_lt, Nat.not_le, not_true_eq_false, not_false_eq_true, true_and, and_true, and_self, f_X12_object_38, f_X12_object_37, f_X12_object, f_X12_objectMany, f_X12_objectOf, T.k, T.r47, T.k47, e2, q1, b2i_d, Nat.add_zero]
      · refine glue0 C Q O (v := nI (N (257 + 3 * k + 1))) ?_ ?_
        · simp (disch := omega) only [nm, bd_s, ko_K, ka_K, koK_t, kaK_t, kr_s, kn_s, kn_n, hK_sI, hR_sI, hK_sL, hR_sL, hI_sL, hL_sI, hL_sL, hI_sI, hN_sI, hN_sL, ch_G, ch_T, nb_0, nb_1, zb_G, d_T, d_F, d_eT, d_eF, b2i_t, b2i_f, tn_nI, fa_lit, fa_litL, m1_e, nI_add, pk_mul, pk_sub, nI_leI, nI_ltI, nI_eq, le_T, le_F, lt_T, lt_F, eq_T, eq_F, if_pos, if_neg, m1_le, m1_lt', m1_gt, m1_le', m1_eq, m1_qe, b2i_eq0, in_N, in_n, in_I, ↓reduceIte, Bool.true_eq_false, Bool.false_eq_true, reduceCtorEq, decide_eq_true_eq, decide_eq_false_iff_not, Nat.not_lt, Nat.not_le, not_true_eq_false, not_false_eq_true, true_and, and_true, and_self, f_X11_object_22, f_X11_object_82, f_X11_object, S.k0, S.r0_2, W.k, W.r2, W.k3, e0, e1, o2]
        · simp (disch := omega) only [nm, bd_s, ko_K, ka_K, koK_t, kaK_t, kr_s, kn_s, kn_n, hK_sI, hR_sI, hK_sL, hR_sL, hI_sL, hL_sI, hL_sL, hI_sI, hN_sI, hN_sL, ch_G, ch_T, nb_0, nb_1, zb_G, d_T, d_F, d_eT, d_eF, b2i_t, b2i_f, tn_nI, fa_lit, fa_litL, m1_e, nI_add, pk_mul, pk_sub, nI_leI, nI_ltI, nI_eq, le_T, le_F, lt_T, lt_F, eq_T, eq_F, if_pos, if_neg, m1_le, m1_lt', m1_gt, m1_le', m1_eq, m1_qe, b2i_eq0, in_N, in_n, in_I, ↓reduceIte, Bool.true_eq_false, Bool.false_eq_true, reduceCtorEq, decide_eq_true_eq, decide_eq_false_iff_not, Nat.not_lt, Nat.not_le, not_true_eq_false, not_false_eq_true, true_and, and_true, and_self, f_X12_object_38, f_X12_object_37, f_X12_object, f_X12_objectMany, f_X12_objectOf, T.k, T.r47, T.k47, e2, q2, b2i_d]
      · refine glue0 C Q O (v := nI (N (257 + 3 * k + 2))) ?_ ?_
        · simp (disch := omega) only [nm, bd_s, ko_K, ka_K, koK_t, kaK_t, kr_s, kn_s, kn_n, hK_sI, hR_sI, hK_sL, hR_sL, hI_sL, hL_sI, hL_sL, hI_sI, hN_sI, hN_sL, ch_G, ch_T, nb_0, nb_1, zb_G, d_T, d_F, d_eT, d_eF, b2i_t, b2i_f, tn_nI, fa_lit, fa_litL, m1_e, nI_add, pk_mul, pk_sub, nI_leI, nI_ltI, nI_eq, le_T, le_F, lt_T, lt_F, eq_T, eq_F, if_pos, if_neg, m1_le, m1_lt', m1_gt, m1_le', m1_eq, m1_qe, b2i_eq0, in_N, in_n, in_I, ↓reduceIte, Bool.true_eq_false, Bool.false_eq_true, reduceCtorEq, decide_eq_true_eq, decide_eq_false_iff_not, Nat.not_lt, Nat.not_le, not_true_eq_false, not_false_eq_true, true_and, and_true, and_self, f_X11_object_22, f_X11_object_82, f_X11_object, S.k0, S.r0_2, W.k, W.r3, W.k4, e0, e1, o3]
        · simp (disch := omega) only [nm, bd_s, ko_K, ka_K, koK_t, kaK_t, kr_s, kn_s, kn_n, hK_sI, hR_sI, hK_sL, hR_sL, hI_sL, hL_sI, hL_sL, hI_sI, hN_sI, hN_sL, ch_G, ch_T, nb_0, nb_1, zb_G, d_T, d_F, d_eT, d_eF, b2i_t, b2i_f, tn_nI, fa_lit, fa_litL, m1_e, nI_add, pk_mul, pk_sub, nI_leI, nI_ltI, nI_eq, le_T, le_F, lt_T, lt_F, eq_T, eq_F, if_pos, if_neg, m1_le, m1_lt', m1_gt, m1_le', m1_eq, m1_qe, b2i_eq0, in_N, in_n, in_I, ↓reduceIte, Bool.true_eq_false, Bool.false_eq_true, reduceCtorEq, decide_eq_true_eq, decide_eq_false_iff_not, Nat.not_lt, Nat.not_le, not_true_eq_false, not_false_eq_true, true_and, and_true, and_self, f_X12_object_38, f_X12_object_37, f_X12_object, f_X12_objectMany, f_X12_objectOf, T.k, T.r47, T.k47, e2, q3, b2i_d]
  · have hr01 := O.r01
    rcases ix_not (by omega) hp with q | q
    · refine glue0 C Q O (v := -nI 1) ?_ ?_
      · rcases hr01 with rfl | rfl
        · simp (disch := omega) only [nm, bd_s, ko_K, ka_K, koK_t, kaK_t, kr_s, kn_s, kn_n, hK_sI, hR_sI, hK_sL, hR_sL, hI_sL, hL_sI, hL_sL, hI_sI, hN_sI, hN_sL, ch_G, ch_T, nb_0, nb_1, zb_G, d_T, d_F, d_eT, d_eF, b2i_t, b2i_f, tn_nI, fa_lit, fa_litL, m1_e, nI_add, pk_mul, pk_sub, nI_leI, nI_ltI, nI_eq, le_T, le_F, lt_T, lt_F, eq_T, eq_F, if_pos, if_neg, m1_le, m1_lt', m1_gt, m1_le', m1_eq, m1_qe, b2i_eq0, in_N, in_n, in_I, ↓reduceIte, Bool.true_eq_false, Bool.false_eq_true, reduceCtorEq, decide_eq_true_eq, decide_eq_false_iff_not, Nat.not_lt, Nat.not_le, not_true_eq_false, not_false_eq_true, true_and, and_true, and_self, f_X11_object_22, f_X11_object_82, f_X11_object, S.k0, e0]
        · simp (disch := omega) only [nm, bd_s, ko_K, ka_K, koK_t, kaK_t, kr_s, kn_s, kn_n, hK_sI, hR_sI, hK_sL, hR_sL, hI_sL, hL_sI, hL_sL, hI_sI, hN_sI, hN_sL, ch_G, ch_T, nb_0, nb_1, zb_G, d_T, d_F, d_eT, d_eF, b2i_t, b2i_f, tn_nI, fa_lit, fa_litL, m1_e, nI_add, pk_mul, pk_sub, nI_leI, nI_ltI, nI_eq, le_T, le_F, lt_T, lt_F, eq_T, eq_F, if_pos, if_neg, m1_le, m1_lt', m1_gt, m1_le', m1_eq, m1_qe, b2i_eq0, in_N, in_n, in_I, ↓reduceIte, Bool.true_eq_false, Bool.false_eq_true, reduceCtorEq, decide_eq_true_eq, decide_eq_false_iff_not, Nat.not_lt, Nat.not_le, not_true_eq_false, not_false_eq_true, true_and, and_true, and_self, f_X11_object_22, f_X11_object_82, f_X11_object, S.k0, S.r0_2, W.k, e0, e1, ng_lt' q, ng_le' q, ng_le q, ng_lt q, ng_eq q, ng_qe q, in_g q, in_gN q]
      · simp (disch := omega) only [nm, bd_s, ko_K, ka_K, koK_t, kaK_t, kr_s, kn_s, kn_n, hK_sI, hR_sI, hK_sL, hR_sL, hI_sL, hL_sI, hL_sL, hI_sI, hN_sI, hN_sL, ch_G, ch_T, nb_0, nb_1, zb_G, d_T, d_F, d_eT, d_eF, b2i_t, b2i_f, tn_nI, fa_lit, fa_litL, m1_e, nI_add, pk_mul, pk_sub, nI_leI, nI_ltI, nI_eq, le_T, le_F, lt_T, lt_F, eq_T, eq_F, if_pos, if_neg, m1_le, m1_lt', m1_gt, m1_le', m1_eq, m1_qe, b2i_eq0, in_N, in_n, in_I, ↓reduceIte, Bool.true_eq_false, Bool.false_eq_true, reduceCtorEq, decide_eq_true_eq, decide_eq_false_iff_not, Nat.not_lt, Nat.not_le, not_true_eq_false, not_false_eq_true, true_and, and_true, and_self, f_X12_object_38, f_X12_object_37, f_X12_object, f_X12_objectMany, T.k, T.r47, T.k47, e2, ng_lt' q, ng_le' q, ng_le q, ng_lt q, ng_eq q, ng_qe q, in_g q, in_gN q]
    · refine glue0 C Q O (v := -nI 1) ?_ ?_
      · rcases hr01 with rfl | rfl
        · simp (disch := omega) only [nm, bd_s, ko_K, ka_K, koK_t, kaK_t, kr_s, kn_s, kn_n, hK_sI, hR_sI, hK_sL, hR_sL, hI_sL, hL_sI, hL_sL, hI_sI, hN_sI, hN_sL, ch_G, ch_T, nb_0, nb_1, zb_G, d_T, d_F, d_eT, d_eF, b2i_t, b2i_f, tn_nI, fa_lit, fa_litL, m1_e, nI_add, pk_mul, pk_sub, nI_leI, nI_ltI, nI_eq, le_T, le_F, lt_T, lt_F, eq_T, eq_F, if_pos, if_neg, m1_le, m1_lt', m1_gt, m1_le', m1_eq, m1_qe, b2i_eq0, in_N, in_n, in_I, ↓reduceIte, Bool.true_eq_false, Bool.false_eq_true, reduceCtorEq, decide_eq_true_eq, decide_eq_false_iff_not, Nat.not_lt, Nat.not_le, not_true_eq_false, not_false_eq_true, true_and, and_true, and_self, f_X11_object_22, f_X11_object_82, f_X11_object, S.k0, e0]
        · simp (disch := omega) only [nm, bd_s, ko_K, ka_K, koK_t, kaK_t, kr_s, kn_s, kn_n, hK_sI, hR_sI, hK_sL, hR_sL, hI_sL, hL_sI, hL_sL, hI_sI, hN_sI, hN_sL, ch_G, ch_T, nb_0, nb_1, zb_G, d_T, d_F, d_eT, d_eF, b2i_t, b2i_f, tn_nI, fa_lit, fa_litL, m1_e, nI_add, pk_mul, pk_sub, nI_leI, nI_ltI, nI_eq, le_T, le_F, lt_T, lt_F, eq_T, eq_F, if_pos, if_neg, m1_le, m1_lt', m1_gt, m1_le', m1_eq, m1_qe, b2i_eq0, in_N, in_n, in_I, ↓reduceIte, Bool.true_eq_false, Bool.false_eq_true, reduceCtorEq, decide_eq_true_eq, decide_eq_false_iff_not, Nat.not_lt, Nat.not_le, not_true_eq_false, not_false_eq_true, true_and, and_true, and_self, f_X11_object_22, f_X11_object_82, f_X11_object, S.k0, S.r0_2, W.k, e0, e1, bg_lt q]
      · simp (disch := omega) only [nm, bd_s, ko_K, ka_K, koK_t, kaK_t, kr_s, kn_s, kn_n, hK_sI, hR_sI, hK_sL, hR_sL, hI_sL, hL_sI, hL_sL, hI_sI, hN_sI, hN_sL, ch_G, ch_T, nb_0, nb_1, zb_G, d_T, d_F, d_eT, d_eF, b2i_t, b2i_f, tn_nI, fa_lit, fa_litL, m1_e, nI_add, pk_mul, pk_sub, nI_leI, nI_ltI, nI_eq, le_T, le_F, lt_T, lt_F, eq_T, eq_F, if_pos, if_neg, m1_le, m1_lt', m1_gt, m1_le', m1_eq, m1_qe, b2i_eq0, in_N, in_n, in_I, ↓reduceIte, Bool.true_eq_false, Bool.false_eq_true, reduceCtorEq, decide_eq_true_eq, decide_eq_false_iff_not, Nat.not_lt, Nat.not_le, not_true_eq_false, not_false_eq_true, true_and, and_true, and_self, f_X12_object_38, f_X12_object_37, f_X12_object, f_X12_objectMany, T.k, T.r47, T.k47, e2, in_b q]
theorem S_octet (C : CX h x (r, tl, tp, rf, ft, fp, sd) (M, mem, sh, ns, kd, cd) N (sl, nx, c, cr) (rn, rw_) (on_, ob)) (Q : CM h (x + 107) (r, tl, tp, rf, ft, fp, sd) (M, mem, sh, ns, kd, cd) N (sl, nx, c, cr) (rn, rw_) (on_, ob)) (O : Ok (r, tl, tp, rf, ft, fp, sd) (M, mem, sh, ns, kd, cd) N (sl, nx, c, cr) (rn, rw_) (on_, ob)) (p : Int32) : SM Int32 x h (f_X11_octet x p) (f_X12_octet (x + 107) p) := by
  have S := C.1
  have T := Q.1
  have e1 : hI h (x + 90) 1 = nI on_ := C.2.2.2.2.2.2.1.1
  have e2 : hI h (x + 107) 102 = nI on_ := Q.2.2.2.2.2.2.1.1
  obtain ⟨f1, f2⟩ : on_ ≤ 450 ∧ ∀ j, ob j ≤ 255 := O.2.2.1
  by_cases hp : ∃ k, k < on_ ∧ p = nI k
  · obtain ⟨k, hk, rfl⟩ := hp
    have q1 : hI h (x + 91) k = (nI (ob k)).toInt8.toInt32 := C.2.2.2.2.2.2.1.2.2 k hk
    have q2 : hI h (x + 107 + 67) k = nI (ob k) := Q.2.2.2.2.2.2.1.2 k hk (by omega)
    have e3 : (nI (ob k)).toInt8.toInt32 &&& nI 255 = nI (ob k) := by
      have := bp_b (nI (ob k))
      rw [show (255 : Int32) = nI 255 from rfl] at this
      rw [this, an_255, Nat.mod_eq_of_lt (by have := f2 k; omega)]
    refine glue0 C Q O (v := nI (ob k)) ?_ ?_
    · simp (disch := omega) only [nm, bd_s, ko_K, ka_K, koK_t, kaK_t, kr_s, kn_s, kn_n, hK_sI, hR_sI, hK_sL, hR_sL, hI_sL, hL_sI, hL_sL, hI_sI, hN_sI, hN_sL, ch_G, ch_T, nb_0, nb_1, zb_G, d_T, d_F, d_eT, d_eF, b2i_t, b2i_f, tn_nI, fa_lit, fa_litL, m1_e, nI_add, pk_mul, pk_sub, nI_leI, nI_ltI, nI_eq, le_T, le_F, lt_T, lt_F, eq_T, eq_F, if_pos, if_neg, m1_le, m1_lt', m1_gt, m1_le', m1_eq, m1_qe, b2i_eq0, in_N, in_n, in_I, ↓reduceIte, Bool.true_eq_false, Bool.false_eq_true, reduceCtorEq, decide_eq_true_eq, decide_eq_false_iff_not, Nat.not_lt, Nat.not_le, not_true_eq_false, not_false_eq_true, true_and, and_true, and_self, f_X11_octet_32, f_X11_octet_31, f_X11_octet, S.k0, S.r0_8, S.k90, S.r90_0, S.k91, e1, q1, e3]
    · simp (disch := omega) only [nm, bd_s, ko_K, ka_K, koK_t, kaK_t, kr_s, kn_s, kn_n, hK_sI, hR_sI, hK_sL, hR_sL, hI_sL, hL_sI, hL_sL, hI_sI, hN_sI, hN_sL, ch_G, ch_T, nb_0, nb_1, zb_G, d_T, d_F, d_eT, d_eF, b2i_t, b2i_f, tn_nI, fa_lit, fa_litL, m1_e, nI_add, pk_mul, pk_sub, nI_leI, nI_ltI, nI_eq, le_T, le_F, lt_T, lt_F, eq_T, eq_F, if_pos, if_neg, m1_le, m1_lt', m1_gt, m1_le', m1_eq, m1_qe, b2i_eq0, in_N, in_n, in_I, ↓reduceIte, Bool.true_eq_false, Bool.false_eq_true, reduceCtorEq, decide_eq_true_eq, decide_eq_false_iff_not, Nat.not_lt, Nat.not_le, not_true_eq_false, not_false_eq_true, true_and, and_true, and_self, f_X12_octet_22, f_X12_octet_21, f_X12_octet, T.k, T.r101, T.k101, e2, q2]
  · rcases ix_not (by omega) hp with q | q
    · refine glue0 C Q O (v := -nI 1) ?_ ?_
      · simp (disch := omega) only [nm, bd_s, ko_K, ka_K, koK_t, kaK_t, kr_s, kn_s, kn_n, hK_sI, hR_sI, hK_sL, hR_sL, hI_sL, hL_sI, hL_sL, hI_sI, hN_sI, hN_sL, ch_G, ch_T, nb_0, nb_1, zb_G, d_T, d_F, d_eT, d_eF, b2i_t, b2i_f, tn_nI, fa_lit, fa_litL, m1_e, nI_add, pk_mul, pk_sub, nI_leI, nI_ltI, nI_eq, le_T, le_F, lt_T, lt_F, eq_T, eq_F, if_pos, if_neg, m1_le, m1_lt', m1_gt, m1_le', m1_eq, m1_qe, b2i_eq0, in_N, in_n, in_I, ↓reduceIte, Bool.true_eq_false, Bool.false_eq_true, reduceCtorEq, decide_eq_true_eq, decide_eq_false_iff_not, Nat.not_lt, Nat.not_le, not_true_eq_false, not_false_eq_true, true_and, and_true, and_self, f_X11_octet_32, f_X11_octet_31, f_X11_octet, S.k0, S.r0_8, S.k90, e1, ng_lt' q, ng_le' q, ng_le q, ng_lt q, ng_eq q, ng_qe q, in_g q, in_gN q]
      · simp (disch := omega) only [nm, bd_s, ko_K, ka_K, koK_t, kaK_t, kr_s, kn_s, kn_n, hK_sI, hR_sI, hK_sL, hR_sL, hI_sL, hL_sI, hL_sL, hI_sI, hN_sI, hN_sL, ch_G, ch_T, nb_0, nb_1, zb_G, d_T, d_F, d_eT, d_eF, b2i_t, b2i_f, tn_nI, fa_lit, fa_litL, m1_e, nI_add, pk_mul, pk_sub, nI_leI, nI_ltI, nI_eq, le_T, le_F, lt_T, lt_F, eq_T, eq_F, if_pos, if_neg, m1_le, m1_lt', m1_gt, m1_le', m1_eq, m1_qe, b2i_eq0, in_N, in_n, in_I, ↓reduceIte, Bool.true_eq_false, Bool.false_eq_true, reduceCtorEq, decide_eq_true_eq, decide_eq_false_iff_not, Nat.not_lt, Nat.not_le, not_true_eq_false, not_false_eq_true, true_and, and_true, and_self, f_X12_octet_22, f_X12_octet_21, f_X12_octet, T.k, e2, ng_lt' q, ng_le' q, ng_le q, ng_lt q, ng_eq q, ng_qe q, in_g q, in_gN q]
    · refine glue0 C Q O (v := -nI 1) ?_ ?_
      · simp (disch := omega) only [nm, bd_s, ko_K, ka_K, koK_t, kaK_t, kr_s, kn_s, kn_n, hK_sI, hR_sI, hK_sL, hR_sL, hI_sL, hL_sI, hL_sL, hI_sI, hN_sI, hN_sL, ch_G, ch_T, nb_0, nb_1, zb_G, d_T, d_F, d_eT, d_eF, b2i_t, b2i_f, tn_nI, fa_lit, fa_litL, m1_e, nI_add, pk_mul, pk_sub, nI_leI, nI_ltI, nI_eq, le_T, le_F, lt_T, lt_F, eq_T, eq_F, if_pos, if_neg, m1_le, m1_lt', m1_gt, m1_le', m1_eq, m1_qe, b2i_eq0, in_N, in_n, in_I, ↓reduceIte, Bool.true_eq_false, Bool.false_eq_true, reduceCtorEq, decide_eq_true_eq, decide_eq_false_iff_not, Nat.not_lt, Nat.not_le, not_true_eq_false, not_false_eq_true, true_and, and_true, and_self, f_X11_octet_32, f_X11_octet_31, f_X11_octet, S.k0, S.r0_8, S.k90, e1, bg_lt q, bg_ge q]
      · simp (disch := omega) only [nm, bd_s, ko_K, ka_K, koK_t, kaK_t, kr_s, kn_s, kn_n, hK_sI, hR_sI, hK_sL, hR_sL, hI_sL, hL_sI, hL_sL, hI_sI, hN_sI, hN_sL, ch_G, ch_T, nb_0, nb_1, zb_G, d_T, d_F, d_eT, d_eF, b2i_t, b2i_f, tn_nI, fa_lit, fa_litL, m1_e, nI_add, pk_mul, pk_sub, nI_leI, nI_ltI, nI_eq, le_T, le_F, lt_T, lt_F, eq_T, eq_F, if_pos, if_neg, m1_le, m1_lt', m1_gt, m1_le', m1_eq, m1_qe, b2i_eq0, in_N, in_n, in_I, ↓reduceIte, Bool.true_eq_false, Bool.false_eq_true, reduceCtorEq, decide_eq_true_eq, decide_eq_false_iff_not, Nat.not_lt, Nat.not_le, not_true_eq_false, not_false_eq_true, true_and, and_true, and_self, f_X12_octet_22, f_X12_octet_21, f_X12_octet, T.k, e2, bg_lt q, bg_ge q]
theorem S_kept (C : CX h x (r, tl, tp, rf, ft, fp, sd) (M, mem, sh, ns, kd, cd) N (sl, nx, c, cr) (rn, rw_) (on_, ob)) (Q : CM h (x + 107) (r, tl, tp, rf, ft, fp, sd) (M, mem, sh, ns, kd, cd) N (sl, nx, c, cr) (rn, rw_) (on_, ob)) (O : Ok (r, tl, tp, rf, ft, fp, sd) (M, mem, sh, ns, kd, cd) N (sl, nx, c, cr) (rn, rw_) (on_, ob)) (p w : Int32) : SM Int32 x h (f_X11_kept x p w) (f_X12_kept (x + 107) p w) := by
  have S := C.1
  have W := S.now
  have T := Q.1
  have R := C.2.2.2.1
  obtain ⟨b1, b2, b3⟩ := O.n0
  have e1 : hI h (x + 3) 7 = nI (N 1377) := R.2.2.2.1
  have e2 : hI h (x + 107 + 34) 1377 = nI (N 1377) := Q.n (by omega) (by omega)
  rcases pk_ix p (n := N 1377) (by omega) with hp | hp | ⟨k, hk, rfl⟩
  · refine glue0 C Q O (v := -1) ?_ ?_
    · simp (disch := omega) only [nm, bd_s, ko_K, ka_K, koK_t, kaK_t, kr_s, kn_s, kn_n, hK_sI, hR_sI, hK_sL, hR_sL, hI_sL, hL_sI, hL_sL, hI_sI, hN_sI, hN_sL, ch_G, ch_T, nb_0, nb_1, zb_G, d_T, d_F, d_eT, d_eF, b2i_t, b2i_f, tn_nI, fa_lit, fa_litL, m1_e, nI_add, pk_mul, pk_sub, nI_leI, nI_ltI, nI_eq, le_T, le_F, lt_T, lt_F, eq_T, eq_F, if_pos, if_neg, m1_le, m1_lt', m1_gt, m1_le', m1_eq, m1_qe, b2i_eq0, in_N, in_n, in_I, ↓reduceIte, Bool.true_eq_false, Bool.false_eq_true, reduceCtorEq, decide_eq_true_eq, decide_eq_false_iff_not, Nat.not_lt, Nat.not_le, not_true_eq_false, not_false_eq_true, true_and, and_true, and_self, f_X11_kept_24, f_X11_kept, ng_lt' hp, ng_le' hp, ng_le hp, ng_lt hp, ng_eq hp, ng_qe hp, in_g hp, in_gN hp]
    · simp (disch := omega) only [nm, bd_s, ko_K, ka_K, koK_t, kaK_t, kr_s, kn_s, kn_n, hK_sI, hR_sI, hK_sL, hR_sL, hI_sL, hL_sI, hL_sL, hI_sI, hN_sI, hN_sL, ch_G, ch_T, nb_0, nb_1, zb_G, d_T, d_F, d_eT, d_eF, b2i_t, b2i_f, tn_nI, fa_lit, fa_litL, m1_e, nI_add, pk_mul, pk_sub, nI_leI, nI_ltI, nI_eq, le_T, le_F, lt_T, lt_F, eq_T, eq_F, if_pos, if_neg, m1_le, m1_lt', m1_gt, m1_le', m1_eq, m1_qe, b2i_eq0, in_N, in_n, in_I, ↓reduceIte, Bool.true_eq_false, Bool.false_eq_true, reduceCtorEq, decide_eq_true_eq, decide_eq_false_iff_not, Nat.not_lt, Nat.not_le, not_true_eq_false, not_false_eq_true, true_and, and_true, and_self, f_X12_kept_50, f_X12_kept_49, f_X12_kept, ng_lt' hp, ng_le' hp, ng_le hp, ng_lt hp, ng_eq hp, ng_qe hp, in_g hp, in_gN hp, T.k, T.r47, T.k47, e2]
  · refine glue0 C Q O (v := -1) ?_ ?_
    · simp (disch := omega) only [nm, bd_s, ko_K, ka_K, koK_t, kaK_t, kr_s, kn_s, kn_n, hK_sI, hR_sI, hK_sL, hR_sL, hI_sL, hL_sI, hL_sL, hI_sI, hN_sI, hN_sL, ch_G, ch_T, nb_0, nb_1, zb_G, d_T, d_F, d_eT, d_eF, b2i_t, b2i_f, tn_nI, fa_lit, fa_litL, m1_e, nI_add, pk_mul, pk_sub, nI_leI, nI_ltI, nI_eq, le_T, le_F, lt_T, lt_F, eq_T, eq_F, if_pos, if_neg, m1_le, m1_lt', m1_gt, m1_le', m1_eq, m1_qe, b2i_eq0, in_N, in_n, in_I, ↓reduceIte, Bool.true_eq_false, Bool.false_eq_true, reduceCtorEq, decide_eq_true_eq, decide_eq_false_iff_not, Nat.not_lt, Nat.not_le, not_true_eq_false, not_false_eq_true, true_and, and_true, and_self, f_X11_kept_24, f_X11_kept, bg_lt hp, bg_ge hp, S.k0, S.r0_2, W.k, e1]
    · simp (disch := omega) only [nm, bd_s, ko_K, ka_K, koK_t, kaK_t, kr_s, kn_s, kn_n, hK_sI, hR_sI, hK_sL, hR_sL, hI_sL, hL_sI, hL_sL, hI_sI, hN_sI, hN_sL, ch_G, ch_T, nb_0, nb_1, zb_G, d_T, d_F, d_eT, d_eF, b2i_t, b2i_f, tn_nI, fa_lit, fa_litL, m1_e, nI_add, pk_mul, pk_sub, nI_leI, nI_ltI, nI_eq, le_T, le_F, lt_T, lt_F, eq_T, eq_F, if_pos, if_neg, m1_le, m1_lt', m1_gt, m1_le', m1_eq, m1_qe, b2i_eq0, in_N, in_n, in_I, ↓reduceIte, Bool.true_eq_false, Bool.false_eq_true, reduceCtorEq, decide_eq_true_eq, decide_eq_false_iff_not, Nat.not_lt, Nat.not_le, not_true_eq_false, not_false_eq_true, true_and, and_true, and_self, f_X12_kept_50, f_X12_kept_49, f_X12_kept, in_b hp, T.k, T.r47, T.k47, e2]
  · rcases pk_ix w (n := 3) (by omega) with hw | hw | ⟨j, hj, rfl⟩
    · refine glue0 C Q O (v := -1) ?_ ?_
      · simp (disch := omega) only [nm, bd_s, ko_K, ka_K, koK_t, kaK_t, kr_s, kn_s, kn_n, hK_sI, hR_sI, hK_sL, hR_sL, hI_sL, hL_sI, hL_sL, hI_sI, hN_sI, hN_sL, ch_G, ch_T, nb_0, nb_1, zb_G, d_T, d_F, d_eT, d_eF, b2i_t, b2i_f, tn_nI, fa_lit, fa_litL, m1_e, nI_add, pk_mul, pk_sub, nI_leI, nI_ltI, nI_eq, le_T, le_F, lt_T, lt_F, eq_T, eq_F, if_pos, if_neg, m1_le, m1_lt', m1_gt, m1_le', m1_eq, m1_qe, b2i_eq0, in_N, in_n, in_I, ↓reduceIte, Bool.true_eq_false, Bool.false_eq_true, reduceCtorEq, decide_eq_true_eq, decide_eq_false_iff_not, Nat.not_lt, Nat.not_le, not_true_eq_false, not_false_eq_true, true_and, and_true, and_self, f_X11_kept_24, f_X11_kept, ng_lt' hw, ng_le' hw, ng_le hw, ng_lt hw, ng_eq hw, ng_qe hw, in_g hw, in_gN hw, S.k0, S.r0_2, W.k, e1]
      · simp (disch := omega) only [nm, bd_s, ko_K, ka_K, koK_t, kaK_t, kr_s, kn_s, kn_n, hK_sI, hR_sI, hK_sL, hR_sL, hI_sL, hL_sI, hL_sL, hI_sI, hN_sI, hN_sL, ch_G, ch_T, nb_0, nb_1, zb_G, d_T, d_F, d_eT, d_eF, b2i_t, b2i_f, tn_nI, fa_lit, fa_litL, m1_e, nI_add, pk_mul, pk_sub, nI_leI, nI_ltI, nI_eq, le_T, le_F, lt_T, lt_F, eq_T, eq_F, if_pos, if_neg, m1_le, m1_lt', m1_gt, m1_le', m1_eq, m1_qe, b2i_eq0, in_N, in_n, in_I, ↓reduceIte, Bool.true_eq_false, Bool.false_eq_true, reduceCtorEq, decide_eq_true_eq, decide_eq_false_iff_not, Nat.not_lt, Nat.not_le, not_true_eq_false, not_false_eq_true, true_and, and_true, and_self, f_X12_kept_50, f_X12_kept_49, f_X12_kept, ng_lt' hw, ng_le' hw, ng_le hw, ng_lt hw, ng_eq hw, ng_qe hw, in_g hw, in_gN hw, T.k, T.r47, T.k47, e2]
    · refine glue0 C Q O (v := -1) ?_ ?_
      · simp (disch := omega) only [nm, bd_s, ko_K, ka_K, koK_t, kaK_t, kr_s, kn_s, kn_n, hK_sI, hR_sI, hK_sL, hR_sL, hI_sL, hL_sI, hL_sL, hI_sI, hN_sI, hN_sL, ch_G, ch_T, nb_0, nb_1, zb_G, d_T, d_F, d_eT, d_eF, b2i_t, b2i_f, tn_nI, fa_lit, fa_litL, m1_e, nI_add, pk_mul, pk_sub, nI_leI, nI_ltI, nI_eq, le_T, le_F, lt_T, lt_F, eq_T, eq_F, if_pos, if_neg, m1_le, m1_lt', m1_gt, m1_le', m1_eq, m1_qe, b2i_eq0, in_N, in_n, in_I, ↓reduceIte, Bool.true_eq_false, Bool.false_eq_true, reduceCtorEq, decide_eq_true_eq, decide_eq_false_iff_not, Nat.not_lt, Nat.not_le, not_true_eq_false, not_false_eq_true, true_and, and_true, and_self, f_X11_kept_24, f_X11_kept, bg_lt hw, bg_ge hw, S.k0, S.r0_2, W.k, e1]
      · simp (disch := omega) only [nm, bd_s, ko_K, ka_K, koK_t, kaK_t, kr_s, kn_s, kn_n, hK_sI, hR_sI, hK_sL, hR_sL, hI_sL, hL_sI, hL_sL, hI_sI, hN_sI, hN_sL, ch_G, ch_T, nb_0, nb_1, zb_G, d_T, d_F, d_eT, d_eF, b2i_t, b2i_f, tn_nI, fa_lit, fa_litL, m1_e, nI_add, pk_mul, pk_sub, nI_leI, nI_ltI, nI_eq, le_T, le_F, lt_T, lt_F, eq_T, eq_F, if_pos, if_neg, m1_le, m1_lt', m1_gt, m1_le', m1_eq, m1_qe, b2i_eq0, in_N, in_n, in_I, ↓reduceIte, Bool.true_eq_false, Bool.false_eq_true, reduceCtorEq, decide_eq_true_eq, decide_eq_false_iff_not, Nat.not_lt, Nat.not_le, not_true_eq_false, not_false_eq_true, true_and, and_true, and_self, f_X12_kept_50, f_X12_kept_49, f_X12_kept, in_bN hw, T.k, T.r47, T.k47, e2]
    · have e3 : hI h (x + 3 + 5) (k * 3 + j) = nI (N (1378 + (k * 3 + j))) := R.2.2.2.2.1 _ (by omega) (by omega)
      have e4 : hI h (x + 107 + 34) (1378 + 3 * k + j) = nI (N (1378 + (k * 3 + j))) := by
        rw [show 1378 + 3 * k + j = 1378 + (k * 3 + j) by omega]
        exact Q.n (by omega) (by omega)
      refine glue0 C Q O (v := nI (N (1378 + (k * 3 + j)))) ?_ ?_
      · simp (disch := omega) only [nm, bd_s, ko_K, ka_K, koK_t, kaK_t, kr_s, kn_s, kn_n, hK_sI, hR_sI, hK_sL, hR_sL, hI_sL, hL_sI, hL_sL, hI_sI, hN_sI, hN_sL, ch_G, ch_T, nb_0, nb_1, zb_G, d_T, d_F, d_eT, d_eF, b2i_t, b2i_f, tn_nI, fa_lit, fa_litL, m1_e, nI_add, pk_mul, pk_sub, nI_leI, nI_ltI, nI_eq, le_T, le_F, lt_T, lt_F, eq_T, eq_F, if_pos, if_neg, m1_le, m1_lt', m1_gt, m1_le', m1_eq, m1_qe, b2i_eq0, in_N, in_n, in_I, ↓reduceIte, Bool.true_eq_false, Bool.false_eq_true, reduceCtorEq, decide_eq_true_eq, decide_eq_false_iff_not, Nat.not_lt, Nat.not_le, not_true_eq_false, not_false_eq_true, true_and, and_true, and_self, f_X11_kept_24, f_X11_kept, S.k0, S.r0_2, W.k, W.r4, W.k5, e1, e3]
      · simp (disch := omega) only [nm, bd_s, ko_K, ka_K, koK_t, kaK_t, kr_s, kn_s, kn_n, hK_sI, hR_sI, hK_sL, hR_sL, hI_sL, hL_sI, hL_sL, hI_sI, hN_sI, hN_sL, ch_G, ch_T, nb_0, nb_1, zb_G, d_T, d_F, d_eT, d_eF, b2i_t, b2i_f, tn_nI, fa_lit, fa_litL, m1_e, nI_add, pk_mul, pk_sub, nI_leI, nI_ltI, nI_eq, le_T, le_F, lt_T, lt_F, eq_T, eq_F, if_pos, if_neg, m1_le, m1_lt', m1_gt, m1_le', m1_eq, m1_qe, b2i_eq0, in_N, in_n, in_I, ↓reduceIte, Bool.true_eq_false, Bool.false_eq_true, reduceCtorEq, decide_eq_true_eq, decide_eq_false_iff_not, Nat.not_lt, Nat.not_le, not_true_eq_false, not_false_eq_true, true_and, and_true, and_self, f_X12_kept_50, f_X12_kept_49, f_X12_kept, T.k, T.r47, T.k47, e2, e4]
end Rd
