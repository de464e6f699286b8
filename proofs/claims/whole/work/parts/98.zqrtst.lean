/-! THE TEXTS: the reference's tests are the descent's -/
section Tj
variable (x : Nat) (tp : Nat → Nat) (n w : Nat)
def FtR (s0 : Nat) (r : tyR) (h : aH) (c N R : List Nat) (o : Nat) (s : Option (Unit × aH)) : Prop := match r with
  | none => True
  | some (.inl e) => FLT x h s e.1 e.2
  | some (.inr q) => ∃ h1 a b, s = TA a b x h1 ∧ 1602 ≤ a + q.2.1 ∧ 1602 ≤ b + q.2.1 ∧ s0 < q.2.1 ∧ RQ h1 x tp n w q.2 (c ++ q.1 ++ N) R (o - N.length) 0 ∧ QX x h h1
def Fct (o : Nat) (g : tyT → tyR) : Prop := ∀ (h : aH) (c N R : List Nat) (k : Nat) (σ : tyT), RQ h x tp n w σ c (N ++ R) o 0 → (∀ v ∈ N, v = 12) → (∀ u, R.head? = some u → ¬ u = 12 ∧ 5 ≤ u) → N.length ≤ o → 1602 ≤ k + σ.1 → FtR x tp n w σ.1 (g σ) h c N R o (f_X12_qTest_2 k (x + 107) 1 h)
def BtR (s0 : Nat) (r : tyR) (h : aH) (c W : List Nat) (o : Nat) (s : Option (Unit × aH)) : Prop := match r with
  | none => True
  | some (.inl e) => FLT x h s e.1 e.2
  | some (.inr q) => ∃ h1 a b cc P, s = TA a b x h1 ∧ 1602 ≤ a + q.2.1 ∧ 1602 ≤ b + q.2.1 ∧ s0 < q.2.1 ∧ RQ h1 x tp n w q.2 (c ++ cc) (P ++ W) o 0 ∧ q.1 = cc ++ P ∧ (P = [] ∨ P = [10]) ∧ isW tp n q.2 20 = false ∧ QX x h h1
def Bth (o : Nat) (g : tyT → tyR) : Prop := ∀ (h : aH) (c W : List Nat) (k : Nat) (σ : tyT), RQ h x tp n w σ c W o 0 → (∀ u, W.head? = some u → ¬ u = 12 ∧ ¬ u = 10 ∧ 5 ≤ u) → 1602 ≤ k + σ.1 → BtR x tp n w σ.1 (g σ) h c W o (f_X12_qTest_2 k (x + 107) 1 h)
def TtR (s0 : Nat) (r : tyR) (h : aH) (c W : List Nat) (o : Nat) (s : Option (Unit × aH)) : Prop := match r with
  | none => True
  | some (.inl e) => FLT x h s e.1 e.2
  | some (.inr q) => ∃ h1 a b cc P, s = TA a b x h1 ∧ 1602 ≤ a + q.2.1 ∧ 1602 ≤ b + q.2.1 ∧ s0 < q.2.1 ∧ RQ h1 x tp n w q.2 (c ++ cc) (P ++ W) o 0 ∧ q.1 = cc ++ P ∧ (∀ v ∈ P, v = 10 ∨ v = 11) ∧ isW tp n q.2 20 = false ∧ isW tp n q.2 19 = false ∧ QX x h h1
def Tst (o : Nat) (g : tyT → tyR) : Prop := ∀ (h : aH) (c W : List Nat) (k : Nat) (σ : tyT), RQ h x tp n w σ c W o 0 → (∀ u, W.head? = some u → ¬ u = 12 ∧ ¬ u = 10 ∧ ¬ u = 11 ∧ 5 ≤ u) → 1602 ≤ k + σ.1 → TtR x tp n w σ.1 (g σ) h c W o (f_X12_qTest_2 k (x + 107) 1 h)
end Tj
section Tk
variable {x : Nat} {tp : Nat → Nat} {n w : Nat}
theorem isW_f {σ : tyT} {i : Nat} (z : ¬ isW tp n σ i = true) : isW tp n σ i = false := by cases y : isW tp n σ i with | false => rfl | true => exact absurd y z
theorem isW_out {σ : tyT} (hn : n ≤ σ.1) (i : Nat) : isW tp n σ i = false := by
  unfold isW
  rw [decide_eq_false (by omega)]
  rfl
/-- a comparison, or true -/
theorem f_plain (tb : ∀ j, tp j ≤ 255) (hn : n ≤ 1600) (hw : w < 4) {f o : Nat} (hf : 3 + 8 * (6 - o) < f) {h : aH} {c N R : List Nat} {k : Nat} {σ : tyT} (T : RQ h x tp n w σ c (N ++ R) o 0) (hN : ∀ v ∈ N, v = 12) (hRR : ∀ u, R.head? = some u → ¬ u = 12 ∧ 5 ≤ u) (ho : N.length ≤ o) (fk : 1602 ≤ k + σ.1) (n21 : isW tp n σ 21 = false) (n91 : isS tp n σ 91 = false) : FtR x tp n w σ.1 (pFact tp n (pD tp n w f) o σ) h c N R o (f_X12_qTest_2 k (x + 107) 1 h) := by
  have sn := T.1.2.1.1
  obtain ⟨k, rfl⟩ : ∃ j, k = j + 1 := ⟨k - 1, by omega⟩
  obtain ⟨lk, A, Q⟩ := T.a tb hn
  have S := T.2.1.1
  have bad := T.1.2.2.1
  obtain ⟨-, -, lc, o6, lb⟩ := T
  obtain ⟨h0, hh0⟩ : ∃ h0, h0 = sI h (x + 107) 2 (nI σ.1) := ⟨_, rfl⟩
  have q0 : QX x h h0 := by rw [hh0]; exact qx_s (by unfold QC; omega)
  rw [← hh0] at lk A Q
  have S0 := A.1.1
  have r72 : hR h0 (x + 107) 72 = some (x + 107 + 39 + 6) := (S0.aw 6 (by omega)).1
  have i6 := m_hereA A tb hn (i := 6) (by omega)
  rw [show isW tp n σ (askW 6) = false from n21, b2i_f] at i6
  have hd : ∀ u, (N ++ R).head? = some u → 5 ≤ u := by
    intro u hu
    cases N with
    | nil => exact (hRR u hu).2
    | cons v N =>
      have hu : some v = some u := hu
      have vu := Option.some.inj hu
      have := hN v (List.mem_cons_self)
      omega
  have fc := m_fact A (⟨A.rt, Q, lc, o6, lb⟩ : RQ h0 x tp n w σ c (N ++ R) o 0) tb hn hw hd f hf n21 n91
  have st : f_X12_qTest_2 (k + 1) (x + 107) 1 h = bd (f_X12_qFact (x + 107) h0) fun _ h22 => ko h22 (x + 107) 11 <| bd (f_X12_qDropsNots (x + 107) h22) fun _ h25 => ko h25 (x + 107) 11 <| if hI h25 (x + 107) 5 = 0 then TA FU k x h25 else f_X12_qTest_105 (f_X12_qTest_2 k) (x + 107) h25 := by
    show b_X12_qTest_2 (f_X12_qTest_2 k) (x + 107) 1 h = _
    unfold b_X12_qTest_2
    rw [if_neg (show ¬ (1 : Int32) = 0 by decide), ko_t S.k, bad, if_pos (show nI 0 = (0 : Int32) from rfl), bd_t lk, if_neg (show ¬ btT tp n σ = (91 : Int32) from btT_f tb (q := 91) (by omega) n91), ko_t S0.k, kr_t r72, bd_t i6, if_pos (show nI 0 = (0 : Int32) from rfl), ko_t S0.k]
    rfl
  revert fc
  cases pFact tp n (pD tp n w f) o σ with
  | none => intro _; exact trivial
  | some r =>
    cases r with
    | inl e =>
      rintro ⟨h1, e1, b5, b6, b7, q1⟩
      have S1 := (A.1.qx q1).1
      have nots : f_X12_qDropsNots (x + 107) h1 = some ((), h1) := by
        obtain ⟨fn, hfn⟩ : ∃ m, FU = m + 1 := ⟨9999, rfl⟩
        unfold f_X12_qDropsNots
        rw [hfn]
        show b_X12_qDropsNots_0 (f_X12_qDropsNots_0 fn) (x + 107) h1 = _
        unfold b_X12_qDropsNots_0
        rw [ko_t S1.k, b5, if_neg (nI_n0 b7.1 b7.2)]
        rfl
      refine ⟨h1, ?_, b5, b6, b7, q0.trans q1⟩
      rw [st, bd_t e1, ko_t S1.k, bd_t nots, ko_t S1.k, b5, if_neg (nI_n0 b7.1 b7.2)]
      exact te_bad S1 b5 b7.1 b7.2 (by omega)
    | inr q =>
      rintro ⟨h1, e1, T1, pg, q1⟩
      have lc1 := T1.2.2.1
      have sn1 := T1.1.2.1.1
      simp only [List.length_append] at lc1
      obtain ⟨h2, e2, Q2, y2⟩ := m_nots N R (c ++ q.1) FU o h1 hN (fun u hu => (hRR u hu).1) (FU_gt (by omega)) ho o6 (by simp only [List.length_append]; omega) T1.1.2.2.1 T1.2.1
      have T2 := T1.1.qy y2
      refine ⟨h2, FU, k, ?_, by show 1602 ≤ FU + _; unfold FU; omega, by show 1602 ≤ k + q.2.1; omega, pg, ⟨T2, Q2, ?_, by omega, Nat.zero_le _⟩, (q0.trans q1).trans y2.x⟩
      · rw [st, bd_t e1, ko_t T1.1.1.1.k, bd_t (show f_X12_qDropsNots (x + 107) h1 = _ from e2), ko_t T2.1.1.k, T2.2.2.1, if_pos (show nI 0 = (0 : Int32) from rfl)]
      · simp only [List.length_append]; omega
theorem s_fact (tb : ∀ j, tp j ≤ 255) (hn : n ≤ 1600) (hw : w < 4) {f o : Nat} (hf : 3 + 8 * (6 - o) < f) (I2 : o < 6 → Fct x tp n w (o + 1) (pD tp n w f 2 (o + 1))) (I0 : o < 6 → Tst x tp n w (o + 1) (pD tp n w f 0 (o + 1))) : Fct x tp n w o (pFact tp n (pD tp n w f) o) := by
  intro h c N R k σ T hN hRR ho fk
  have o6 := T.2.2.2.1
  have sn := T.1.2.1.1
  by_cases z2 : isW tp n σ 21 = true
  · have n22 : ¬ isW tp n σ 22 = true := fun y => absurd (isW_inj (by omega) (by omega) y z2) (by omega)
    unfold pFact
    rw [if_neg n22, if_pos z2]
    obtain ⟨k, rfl⟩ : ∃ j, k = j + 1 := ⟨k - 1, by omega⟩
    obtain ⟨y1, y2⟩ := t_not (k1 := k) T tb hn z2
    have nw := (nW_ok z2).2
    by_cases z3 : o < 6
    · rw [if_pos z3]
      obtain ⟨h1, e1, T1, q1⟩ := y1 z3
      have hN1 : ∀ v ∈ 12 :: N, v = 12 := by
        intro v hv
        rcases List.mem_cons.mp hv with rfl | hv
        · rfl
        · exact hN v hv
      have i := I2 z3 h1 c (12 :: N) R k (nW tp n σ) T1 hN1 hRR (by rw [List.length_cons]; omega) (by omega)
      revert i
      cases pD tp n w f 2 (o + 1) (nW tp n σ) with
      | none => intro _; exact trivial
      | some r =>
        cases r with
        | inl e => intro i; exact FLT.of i e1 q1
        | inr q =>
          rintro ⟨h2, a, b, e2, fa, fb, pg, T2, q2⟩
          refine ⟨h2, a, b, e1.trans e2, fa, fb, by show σ.1 < q.2.1; omega, ?_, q1.trans q2⟩
          show RQ h2 x tp n w q.2 (c ++ (q.1 ++ [12]) ++ N) R (o - N.length) 0
          rw [List.length_cons, show o + 1 - (N.length + 1) = o - N.length by omega, show c ++ q.1 ++ 12 :: N = c ++ (q.1 ++ [12]) ++ N by simp] at T2
          exact T2
    · rw [if_neg z3]
      exact y2 (by omega) (by omega)
  · by_cases z1 : isS tp n σ 91 = true
    · unfold pFact
      rw [if_neg (show ¬ isW tp n σ 22 = true by rw [isSW (by decide) z1]; exact Bool.false_ne_true), if_neg z2, if_pos z1]
      obtain ⟨k, rfl⟩ : ∃ j, k = j + 1 := ⟨k - 1, by omega⟩
      obtain ⟨y1, y2⟩ := t_sq (k1 := k) T tb hn z1
      have ns := (nS_ok z1).2
      by_cases z3 : o < 6
      · rw [if_pos z3]
        obtain ⟨h1, e1, T1, q1⟩ := y1 z3
        have i := I0 z3 h1 c (25 :: (N ++ R)) k (nS tp n σ) T1 (fun u hu => by cases hu; omega) (by omega)
        revert i
        cases pD tp n w f 0 (o + 1) (nS tp n σ) with
        | none => intro _; exact trivial
        | some r =>
          cases r with
          | inl e => intro i; exact FLT.of i e1 q1
          | inr q =>
            rintro ⟨h2, a, b, cc, P, e2, fa, fb, pg, T2, eq, hP, m20, m19, q2⟩
            have sn2 := T2.1.2.1.1
            show FtR x tp n w σ.1 (if isS tp n q.2 93 = true then ok q.1 (nS tp n q.2) else fl 1 q.2.1) h c N R o (f_X12_qTest_2 (k + 1) (x + 107) 1 h)
            by_cases z5 : isS tp n q.2 93 = true
            · rw [if_pos z5]
              obtain ⟨a, rfl⟩ : ∃ j, a = j + 1 := ⟨a - 1, by omega⟩
              obtain ⟨h3, e3, T3, q3⟩ := t_close (k1 := a) (k2 := b) T2 tb hn rfl (fun v hv => by rcases hP v hv with rfl | rfl <;> omega) hN (fun u hu => (hRR u hu).1) (by omega) rfl z5
              have ns2 := (nS_ok z5).2
              refine ⟨h3, a, b, e1.trans (e2.trans e3), by show 1602 ≤ a + (nS tp n q.2).1; omega, by show 1602 ≤ b + (nS tp n q.2).1; omega, by show σ.1 < (nS tp n q.2).1; omega, ?_, (q1.trans q2).trans q3⟩
              show RQ h3 x tp n w (nS tp n q.2) (c ++ q.1 ++ N) R (o - N.length) 0
              rw [show c ++ cc ++ P ++ N = c ++ q.1 ++ N by rw [eq]; simp, show o + 1 - 1 - N.length = o - N.length by omega] at T3
              exact T3
            · rw [if_neg z5]
              have := t_fail (k1 := a) (k2 := b) T2 tb hn m20 m19 (isS_f z5) (by simp) (by omega) (by omega)
              exact this.of (e1.trans e2) (q1.trans q2)
      · rw [if_neg z3]
        exact y2 (by omega) (by omega)
    · exact f_plain tb hn hw hf T hN hRR ho fk (isW_f z2) (isS_f z1)
theorem s_bl (tb : ∀ j, tp j ≤ 255) (hn : n ≤ 1600) {G : Nat → Nat → tyT → tyR} {o : Nat} (I2 : Fct x tp n w o (G 2 o)) : ∀ (k s0 : Nat) (h : aH) (c cc P W : List Nat) (a b : Nat) (σ : tyT), s0 < σ.1 → RQ h x tp n w σ (c ++ cc) (P ++ W) o 0 → (P = [] ∨ P = [10]) → (∀ u, W.head? = some u → ¬ u = 12 ∧ ¬ u = 10 ∧ 5 ≤ u) → 1602 ≤ a + σ.1 → 1602 ≤ b + σ.1 → 1600 ≤ k + σ.1 → BtR x tp n w s0 (pBL tp n G o k (cc ++ P) σ) h c W o (TA a b x h) := by
  intro k
  induction k with
  | zero =>
    intro s0 h c cc P W a b σ s1 T hP hd fa fb hk
    exact ⟨h, a, b, cc, P, rfl, fa, fb, s1, T, rfl, hP, isW_out (by show n ≤ σ.1; omega) _, QX.refl⟩
  | succ k ih =>
    intro s0 h c cc P W a b σ s1 T hP hd fa fb hk
    have sn := T.1.2.1.1
    unfold pBL
    by_cases z : isW tp n σ 20 = true
    · rw [if_pos z]
      have hP1 : ∀ v ∈ P, v = 10 := by
        intro v hv
        rcases hP with rfl | rfl
        · cases hv
        · simpa using hv
      obtain ⟨h1, e1, T1, q1⟩ := t_and (k1 := a) (k2 := b) T tb hn rfl hP1 (fun v hv => (hd v hv).2.1) rfl z (by omega)
      have nw := (nW_ok z).2
      have i := I2 h1 (c ++ cc ++ P) [] (10 :: W) b (nW tp n σ) T1 (fun v hv => by cases hv) (fun u hu => by cases hu; omega) (Nat.zero_le _) (by omega)
      revert i
      cases G 2 o (nW tp n σ) with
      | none => intro _; exact trivial
      | some r =>
        cases r with
        | inl e => intro i; exact FLT.of i e1 q1
        | inr r =>
          rintro ⟨h2, a2, b2, e2, g1, g2, g0, T2, q2⟩
          rw [show c ++ cc ++ P ++ r.1 ++ [] = c ++ (cc ++ P ++ r.1) by simp, show o - ([] : List Nat).length = o from rfl] at T2
          have i := ih s0 h2 c (cc ++ P ++ r.1) [10] W a2 b2 r.2 (by omega) T2 (.inr rfl) hd g1 g2 (by omega)
          show BtR x tp n w s0 (pBL tp n G o k (cc ++ P ++ r.1 ++ [10]) r.2) h c W o (TA a b x h)
          revert i
          cases pBL tp n G o k (cc ++ P ++ r.1 ++ [10]) r.2 with
          | none => intro _; exact trivial
          | some t =>
            cases t with
            | inl e => intro i; exact FLT.of i (e1.trans e2) (q1.trans q2)
            | inr t =>
              rintro ⟨h3, a3, b3, cc3, P3, e3, k1, k2, k0, T3, k3, k4, k5, q3⟩
              exact ⟨h3, a3, b3, cc3, P3, e1.trans (e2.trans e3), k1, k2, k0, T3, k3, k4, k5, (q1.trans q2).trans q3⟩
    · rw [if_neg z]
      exact ⟨h, a, b, cc, P, rfl, fa, fb, s1, T, rfl, hP, isW_f z, QX.refl⟩
theorem s_both (tb : ∀ j, tp j ≤ 255) (hn : n ≤ 1600) {G : Nat → Nat → tyT → tyR} {o : Nat} (I2 : Fct x tp n w o (G 2 o)) : Bth x tp n w o (pBoth tp n G o) := by
  intro h c W k σ T hd fk
  have i := I2 h c [] W k σ T (fun v hv => by cases hv) (fun u hu => ⟨(hd u hu).1, (hd u hu).2.2⟩) (Nat.zero_le _) fk
  unfold pBoth
  revert i
  cases G 2 o σ with
  | none => intro _; exact trivial
  | some r =>
    cases r with
    | inl e => intro i; exact i
    | inr r =>
      rintro ⟨h1, a, b, e1, g1, g2, g0, T1, q1⟩
      rw [show c ++ r.1 ++ [] = c ++ r.1 by simp, show o - ([] : List Nat).length = o from rfl] at T1
      have i := s_bl tb hn I2 1600 σ.1 h1 c r.1 [] W a b r.2 g0 T1 (.inl rfl) hd g1 g2 (by omega)
      rw [List.append_nil] at i
      show BtR x tp n w σ.1 (pBL tp n G o 1600 r.1 r.2) h c W o (f_X12_qTest_2 k (x + 107) 1 h)
      revert i
      cases pBL tp n G o 1600 r.1 r.2 with
      | none => intro _; exact trivial
      | some t =>
        cases t with
        | inl e => intro i; exact FLT.of i e1 q1
        | inr t =>
          rintro ⟨h3, a3, b3, cc3, P3, e3, k1, k2, k0, T3, k3, k4, k5, q3⟩
          exact ⟨h3, a3, b3, cc3, P3, e1.trans e3, k1, k2, k0, T3, k3, k4, k5, q1.trans q3⟩
theorem s_tl (tb : ∀ j, tp j ≤ 255) (hn : n ≤ 1600) {G : Nat → Nat → tyT → tyR} {o : Nat} (I1 : Bth x tp n w o (G 1 o)) : ∀ (k s0 : Nat) (h : aH) (c cc P W : List Nat) (a b : Nat) (σ : tyT), s0 < σ.1 → RQ h x tp n w σ (c ++ cc) (P ++ W) o 0 → (∀ v ∈ P, v = 10 ∨ v = 11) → isW tp n σ 20 = false → (∀ u, W.head? = some u → ¬ u = 12 ∧ ¬ u = 10 ∧ ¬ u = 11 ∧ 5 ≤ u) → 1602 ≤ a + σ.1 → 1602 ≤ b + σ.1 → 1600 ≤ k + σ.1 → TtR x tp n w s0 (pTL tp n G o k (cc ++ P) σ) h c W o (TA a b x h) := by
  intro k
  induction k with
  | zero =>
    intro s0 h c cc P W a b σ s1 T hP m20 hd fa fb hk
    exact ⟨h, a, b, cc, P, rfl, fa, fb, s1, T, rfl, hP, m20, isW_out (by show n ≤ σ.1; omega) _, QX.refl⟩
  | succ k ih =>
    intro s0 h c cc P W a b σ s1 T hP m20 hd fa fb hk
    have sn := T.1.2.1.1
    unfold pTL
    by_cases z : isW tp n σ 19 = true
    · rw [if_pos z]
      obtain ⟨h1, e1, T1, q1⟩ := t_or (k1 := a) (k2 := b) T tb hn rfl hP (fun v hv => ⟨(hd v hv).2.1, (hd v hv).2.2.1⟩) rfl z (by omega)
      have nw := (nW_ok z).2
      have i := I1 h1 (c ++ cc ++ P) (11 :: W) b (nW tp n σ) T1 (fun u hu => by cases hu; omega) (by omega)
      revert i
      cases G 1 o (nW tp n σ) with
      | none => intro _; exact trivial
      | some r =>
        cases r with
        | inl e => intro i; exact FLT.of i e1 q1
        | inr r =>
          rintro ⟨h2, a2, b2, cc2, P2, e2, g1, g2, g0, T2, g3, g4, g5, q2⟩
          rw [show c ++ cc ++ P ++ cc2 = c ++ (cc ++ P ++ cc2) by simp, show P2 ++ 11 :: W = (P2 ++ [11]) ++ W by simp] at T2
          have hP2 : ∀ v ∈ P2 ++ [11], v = 10 ∨ v = 11 := by
            intro v hv
            rcases List.mem_append.mp hv with y | y
            · rcases g4 with rfl | rfl
              · cases y
              · left; simpa using y
            · right; simpa using y
          have i := ih s0 h2 c (cc ++ P ++ cc2) (P2 ++ [11]) W a2 b2 r.2 (by omega) T2 hP2 g5 hd g1 g2 (by omega)
          rw [show cc ++ P ++ cc2 ++ (P2 ++ [11]) = cc ++ P ++ r.1 ++ [11] by rw [g3]; simp] at i
          show TtR x tp n w s0 (pTL tp n G o k (cc ++ P ++ r.1 ++ [11]) r.2) h c W o (TA a b x h)
          revert i
          cases pTL tp n G o k (cc ++ P ++ r.1 ++ [11]) r.2 with
          | none => intro _; exact trivial
          | some t =>
            cases t with
            | inl e => intro i; exact FLT.of i (e1.trans e2) (q1.trans q2)
            | inr t =>
              rintro ⟨h3, a3, b3, cc3, P3, e3, k1, k2, k0, T3, k3, k4, k5, k6, q3⟩
              exact ⟨h3, a3, b3, cc3, P3, e1.trans (e2.trans e3), k1, k2, k0, T3, k3, k4, k5, k6, (q1.trans q2).trans q3⟩
    · rw [if_neg z]
      exact ⟨h, a, b, cc, P, rfl, fa, fb, s1, T, rfl, hP, m20, isW_f z, QX.refl⟩
theorem s_test (tb : ∀ j, tp j ≤ 255) (hn : n ≤ 1600) {G : Nat → Nat → tyT → tyR} {o : Nat} (I1 : Bth x tp n w o (G 1 o)) : Tst x tp n w o (pTest tp n G o) := by
  intro h c W k σ T hd fk
  have i := I1 h c W k σ T (fun u hu => ⟨(hd u hu).1, (hd u hu).2.1, (hd u hu).2.2.2⟩) fk
  unfold pTest
  revert i
  cases G 1 o σ with
  | none => intro _; exact trivial
  | some r =>
    cases r with
    | inl e => intro i; exact i
    | inr r =>
      rintro ⟨h1, a, b, cc, P, e1, g1, g2, g0, T1, g3, g4, g5, q1⟩
      have hP : ∀ v ∈ P, v = 10 ∨ v = 11 := by
        intro v hv
        rcases g4 with rfl | rfl
        · cases hv
        · left; simpa using hv
      have i := s_tl tb hn I1 1600 σ.1 h1 c cc P W a b r.2 g0 T1 hP g5 hd g1 g2 (by omega)
      rw [← g3] at i
      show TtR x tp n w σ.1 (pTL tp n G o 1600 r.1 r.2) h c W o (f_X12_qTest_2 k (x + 107) 1 h)
      revert i
      cases pTL tp n G o 1600 r.1 r.2 with
      | none => intro _; exact trivial
      | some t =>
        cases t with
        | inl e => intro i; exact FLT.of i e1 q1
        | inr t =>
          rintro ⟨h3, a3, b3, cc3, P3, e3, k1, k2, k0, T3, k3, k4, k5, k6, q3⟩
          exact ⟨h3, a3, b3, cc3, P3, e1.trans e3, k1, k2, k0, T3, k3, k4, k5, k6, q1.trans q3⟩
theorem s_tests (tb : ∀ j, tp j ≤ 255) (hn : n ≤ 1600) (hw : w < 4) : ∀ f, (∀ o, o ≤ 6 → 6 + 8 * (6 - o) < f → Tst x tp n w o (pD tp n w f 0 o)) ∧ (∀ o, o ≤ 6 → 5 + 8 * (6 - o) < f → Bth x tp n w o (pD tp n w f 1 o)) ∧ (∀ o, o ≤ 6 → 4 + 8 * (6 - o) < f → Fct x tp n w o (pD tp n w f 2 o)) := by
  intro f
  induction f with
  | zero => exact ⟨fun _ _ z => by omega, fun _ _ z => by omega, fun _ _ z => by omega⟩
  | succ f ih =>
    obtain ⟨i0, i1, i2⟩ := ih
    exact ⟨fun o ho z => s_test (G := pD tp n w f) tb hn (i1 o ho (by omega)), fun o ho z => s_both (G := pD tp n w f) tb hn (i2 o ho (by omega)), fun o ho z => s_fact tb hn hw (by omega) (fun y => i2 (o + 1) (by omega) (by omega)) (fun y => i0 (o + 1) (by omega) (by omega))⟩
end Tk
