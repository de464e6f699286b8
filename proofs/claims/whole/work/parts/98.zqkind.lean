/-! THE TEXTS: the reference's sums are the descent's -/
section Ri
variable (x : Nat) (tp : Nat → Nat) (n w : Nat)
/-- what is asked of a part: those that wait for it (F) are told behind it -/
def PrtR (s0 : Nat) (r : tyR) (h : aH) (c F R : List Nat) (o bs k1 k2 : Nat) (v : Int32) : Prop := match r with
  | none => True
  | some (.inl e) => FLQ x h (PE k1 k2 x v h) e.1 e.2
  | some (.inr q) => ∃ h1 a b, PE k1 k2 x v h = PA a b x v h1 ∧ 1602 ≤ a + q.2.1 ∧ 1602 ≤ b + q.2.1 ∧ s0 < q.2.1 ∧ RQ h1 x tp n w q.2 (c ++ q.1 ++ F) R (o - F.length) bs ∧ QX x h h1
def Prt (H : tyT → Prop) (G : Nat → tyT → tyR) : Prop := ∀ (h : aH) (c F R : List Nat) (o bs k1 k2 : Nat) (v : Int32) (σ : tyT), H σ → RQ h x tp n w σ c (F ++ R) o bs → (∀ u ∈ F, 60 ≤ u) → (R.length = bs ∨ bs < R.length ∧ ∃ u R', R = u :: R' ∧ u < 60) → F.length ≤ o → 1602 ≤ k1 + σ.1 → 1602 ≤ k2 + σ.1 → PrtR x tp n w σ.1 (G o σ) h c F R o bs k1 k2 v
/-- what is asked of a product, from where (r) -/
def PrdR (s0 : Nat) (r : tyR) (h : aH) (c W : List Nat) (o bs : Nat) (s : Option (Unit × aH)) (v : Int32) : Prop := match r with
  | none => True
  | some (.inl e) => FLQ x h s e.1 e.2
  | some (.inr q) => ∃ h1 a b cc P, s = PA a b x v h1 ∧ 1602 ≤ a + q.2.1 ∧ 1602 ≤ b + q.2.1 ∧ s0 < q.2.1 ∧ RQ h1 x tp n w q.2 (c ++ cc) (P ++ W) o bs ∧ q.1 = cc ++ P ∧ (P = [] ∨ P = [3] ∨ P = [4]) ∧ isS tp n q.2 42 = false ∧ isS tp n q.2 47 = false ∧ QX x h h1
def Prd (G : Nat → tyT → tyR) : Prop := ∀ (h : aH) (c P0 W0 : List Nat) (o bs k1 k2 : Nat) (v : Int32) (σ : tyT), RQ h x tp n w σ c (P0 ++ W0) o bs → (P0 = [] ∨ P0 = [1] ∨ P0 = [2]) → stopB bs W0 → (∀ u, W0.head? = some u → 5 ≤ u) → 1602 ≤ k1 + σ.1 → 1602 ≤ k2 + σ.1 → PrdR x tp n w σ.1 (G o σ) h c (P0 ++ W0) o bs (PE k1 k2 x v h) v
def SmmR (s0 : Nat) (r : tyR) (h : aH) (c W : List Nat) (o bs : Nat) (s : Option (Unit × aH)) (v : Int32) : Prop := match r with
  | none => True
  | some (.inl e) => FLQ x h s e.1 e.2
  | some (.inr q) => ∃ h1 a b cc P, s = PA a b x v h1 ∧ 1602 ≤ a + q.2.1 ∧ 1602 ≤ b + q.2.1 ∧ s0 < q.2.1 ∧ RQ h1 x tp n w q.2 (c ++ cc) (P ++ W) o bs ∧ q.1 = cc ++ P ∧ (∀ u ∈ P, u = 1 ∨ u = 2 ∨ u = 3 ∨ u = 4) ∧ noOp tp n q.2 ∧ QX x h h1
def Smm (G : Nat → tyT → tyR) : Prop := ∀ (h : aH) (c W : List Nat) (o bs k1 k2 : Nat) (v : Int32) (σ : tyT), RQ h x tp n w σ c W o bs → stopB bs W → (∀ u, W.head? = some u → 5 ≤ u) → 1602 ≤ k1 + σ.1 → 1602 ≤ k2 + σ.1 → SmmR x tp n w σ.1 (G o σ) h c W o bs (PE k1 k2 x v h) v
end Ri
section Rj
variable {x : Nat} {tp : Nat → Nat} {n w : Nat} {G : Nat → Nat → tyT → tyR}
theorem FLQ.of {h h1 : aH} {r r' : Option (Unit × aH)} {k p : Nat} (f : FLQ x h1 r k p) (e : r' = r) (q : QX x h h1) : FLQ x h r' k p := by
  obtain ⟨g, e1, b5, b6, b7, b8, y⟩ := f
  exact ⟨g, e.trans e1, b5, b6, b7, b8, q.trans y⟩
theorem ops_nb {P : List Nat} (hP : ∀ u ∈ P, u = 1 ∨ u = 2 ∨ u = 3 ∨ u = 4) : ∀ u ∈ P, isBr u = false := fun u hu => by rcases hP u hu with rfl | rfl | rfl | rfl <;> rfl
theorem m_fails {h : aH} {c P R : List Nat} {o bs a b t : Nat} {v : Int32} {σ : tyT} (T : RQ h x tp n w σ c (P ++ t :: R) o bs) (tb : ∀ j, tp j ≤ 255) (hn : n ≤ 1600) (hP : ∀ u ∈ P, u = 1 ∨ u = 2 ∨ u = 3 ∨ u = 4) (hb : isBr t = true) (hbR : bs ≤ R.length) (no : noOp tp n σ) (nf : if t = 21 ∨ t = 22 then isS tp n σ 44 = false else isS tp n σ 41 = false) (h1 : 1602 ≤ a + σ.1) (h2 : 1602 ≤ b + σ.1) : FLQ x h (PA a b x v h) 1 σ.1 := by
  have sn := T.1.2.1.1
  have e := a_fail (v := v) (k1 := a) (k2 := b) T tb hn rfl (ops_nb hP) hb hbR no nf (by omega) (by omega)
  have f5 := fl_5 (h := sI h (x + 107) 2 (nI σ.1)) (x := x) (k := 1) (p := σ.1)
  exact ⟨_, e, by rw [hI_sI, if_neg (by omega)]; exact f5.1, by rw [hI_sI, if_neg (by omega)]; exact f5.2, ⟨by omega, by omega⟩, ⟨c.length, by rw [hI_sI, if_neg (by omega), fl_92, hI_sI, if_neg (by omega)]; exact T.2.1.2.1.1, by have := T.2.2.1; omega⟩, ((qx_s (by unfold QC; omega)).trans qx_fl).trans (qx_s (by unfold QC; omega))⟩
theorem wB2_n {σ : tyT} {lo hi : Nat} (e : wJ tp n σ = none) : wB2 tp n w σ lo hi = none := by unfold wB2; rw [e]
theorem isN_wJ {σ : tyT} (z : isN tp n σ = true) : wJ tp n σ = none := wJ_no (fun i _ => isNW z)
theorem s_part (tb : ∀ j, tp j ≤ 255) (hn : n ≤ 1600) (hw : w < 4) (I3 : Smm x tp n w (G 3)) (I6 : Prt x tp n w (fun σ => isW tp n σ 23 = true ∨ isW tp n σ 24 = true) (G 6)) (I7 : Prt x tp n w (fun σ => isN tp n σ = false ∧ isS tp n σ 40 = false ∧ isW tp n σ 23 = false ∧ isW tp n σ 24 = false) (G 7)) : Prt x tp n w (fun _ => True) (pPart tp n G) := by
  intro h c F R o bs k1 k2 v σ _ T hF hR ho f1 f2
  have sn := T.1.2.1.1
  have lb := T.2.2.2.2
  have o6 := T.2.2.2.1
  obtain ⟨k1, rfl⟩ : ∃ j, k1 = j + 2 := ⟨k1 - 2, by omega⟩
  unfold pPart
  by_cases z1 : isN tp n σ = true
  · rw [if_pos z1]
    have wn := isN_wJ z1
    obtain ⟨y1, y2, -⟩ := e_num (k1 := k1) (k2 := k2) (v := v) T tb hn hw (isNS (by decide) z1) (isNW z1) (isNW z1) (wB2_n wn) (wB2_n wn) (by omega)
    by_cases z4 : rn isD tp n σ.1 - σ.1 ≤ 4
    · rw [if_pos z4]
      obtain ⟨h1, e, T1, q⟩ := y1 z1 z4 F R rfl hF hR ho
      have nd := (nD_ok z1).2
      exact ⟨h1, FU, k2, e, by show 1602 ≤ FU + _; unfold FU; omega, by show 1602 ≤ k2 + (nD tp n σ).1; omega, nd, T1, q⟩
    · rw [if_neg z4]
      exact y2 z1 z4
  · rw [if_neg z1]
    have z1 : isN tp n σ = false := by cases y : isN tp n σ with | false => rfl | true => exact absurd y z1
    by_cases z2 : isS tp n σ 40 = true
    · rw [if_pos z2]
      obtain ⟨y1, y2⟩ := e_br (k1 := k1 + 1) (k2 := k2) (v := v) T tb hn hw z2
      have ns := (nS_ok z2).2
      by_cases z3 : o < 6
      · rw [if_pos z3]
        obtain ⟨h1, e1, T1, q1⟩ := y1 z3
        have i := I3 h1 c (20 :: (F ++ R)) (o + 1) bs (k1 + 1) k2 v (nS tp n σ) T1 (.inr ⟨by show bs < (F ++ R).length + 1; omega, 20, F ++ R, rfl, rfl⟩) (fun u hu => by cases hu; omega) (by omega) (by omega)
        revert i
        cases G 3 (o + 1) (nS tp n σ) with
        | none => intro _; exact trivial
        | some s =>
          cases s with
          | inl e => intro i; exact FLQ.of i e1 q1
          | inr q =>
            rintro ⟨h2, a, b, cc, P, e2, fa, fb, pg, T2, eq, hP, no, q2⟩
            have sn2 := T2.1.2.1.1
            show PrtR x tp n w σ.1 (if isS tp n q.2 41 = true then ok q.1 (nS tp n q.2) else fl 1 q.2.1) h c F R o bs (k1 + 2) k2 v
            by_cases z5 : isS tp n q.2 41 = true
            · rw [if_pos z5]
              obtain ⟨a, rfl⟩ : ∃ j, a = j + 1 := ⟨a - 1, by omega⟩
              obtain ⟨h3, e3, T3, q3⟩ := a_close (k1 := a) (k2 := b) (v := v) T2 tb hn rfl (ops_nb hP) (.inl rfl) lb rfl hF hR (by omega) z5
              have ns2 := (nS_ok z5).2
              refine ⟨h3, a, b, e1.trans (e2.trans e3), by show 1602 ≤ a + (nS tp n q.2).1; omega, by show 1602 ≤ b + (nS tp n q.2).1; omega, by show σ.1 < (nS tp n q.2).1; omega, ?_, (q1.trans q2).trans q3⟩
              show RQ h3 x tp n w (nS tp n q.2) (c ++ q.1 ++ F) R (o - F.length) bs
              rw [show c ++ cc ++ P ++ brC 20 ++ F = c ++ q.1 ++ F by rw [eq, show brC 20 = [] from rfl]; simp, show o + 1 - 1 - F.length = o - F.length by omega] at T3
              exact T3
            · rw [if_neg z5]
              have := m_fails (v := v) T2 tb hn hP (t := 20) rfl lb no (by rw [if_neg (by omega)]; exact isS_f z5) fa fb
              exact this.of (e1.trans e2) (q1.trans q2)
      · rw [if_neg z3]
        exact y2 (by omega) (by omega) (by omega)
    · rw [if_neg z2]
      by_cases z3 : isW tp n σ 23 = true
      · rw [if_pos z3]
        exact I6 h c F R o bs (k1 + 2) k2 v σ (.inl z3) T hF hR ho f1 f2
      · rw [if_neg z3]
        by_cases z4 : isW tp n σ 24 = true
        · rw [if_pos z4]
          exact I6 h c F R o bs (k1 + 2) k2 v σ (.inr z4) T hF hR ho f1 f2
        · rw [if_neg z4]
          exact I7 h c F R o bs (k1 + 2) k2 v σ ⟨z1, isS_f z2, by cases y : isW tp n σ 23 with | false => rfl | true => exact absurd y z3, by cases y : isW tp n σ 24 with | false => rfl | true => exact absurd y z4⟩ T hF hR ho f1 f2
theorem s_word (tb : ∀ j, tp j ≤ 255) (hn : n ≤ 1600) (hw : w < 4) (I5 : Prt x tp n w (fun _ => True) (G 5)) : Prt x tp n w (fun σ => isN tp n σ = false ∧ isS tp n σ 40 = false ∧ isW tp n σ 23 = false ∧ isW tp n σ 24 = false) (pWord tp n w G) := by
  rintro h c F R o bs k1 k2 v σ ⟨nN, n40, n23, n24⟩ T hF hR ho f1 f2
  have sn := T.1.2.1.1
  have lb := T.2.2.2.2
  have o6 := T.2.2.2.1
  obtain ⟨k1, rfl⟩ : ∃ j, k1 = j + 2 := ⟨k1 - 2, by omega⟩
  unfold pWord
  cases wj : wJ tp n σ with
  | none => exact (e_num (k1 := k1) (k2 := k2) (v := v) T tb hn hw n40 n23 n24 (wB2_n wj) (wB2_n wj) (by omega)).2.2 nN
  | some j =>
    obtain ⟨j13, iw⟩ := wJ_t wj
    have nw := (nW_ok iw).2
    show PrtR x tp n w σ.1 (if alW w j = true then (if 11 ≤ j then (if o < 6 then bR (G 5 (o + 1) (nW tp n σ)) fun c σ1 => ok (c ++ [60 + (j - 11)]) σ1 else fl 4 σ.1) else ok [40 + j] (nW tp n σ)) else fl 1 σ.1) h c F R o bs (k1 + 2) k2 v
    by_cases z1 : alW w j = true
    · rw [if_pos z1]
      by_cases z2 : 11 ≤ j
      · rw [if_pos z2]
        have wb : wB2 tp n w σ 11 13 = some j := by
          unfold wB2
          rw [wj]
          show (if 11 ≤ j ∧ j < 13 ∧ alW w j = true then some j else none) = some j
          rw [if_pos ⟨z2, j13, z1⟩]
        obtain ⟨y1, y2⟩ := e_of (k1 := k1 + 1) (k2 := k2) (v := v) T tb hn hw wb n23 n24
        by_cases z3 : o < 6
        · rw [if_pos z3]
          obtain ⟨h1, e1, T1, q1⟩ := y1 z3
          have hF1 : ∀ u ∈ (60 + (j - 11)) :: F, 60 ≤ u := by
            intro u hu
            rcases List.mem_cons.mp hu with rfl | hu
            · omega
            · exact hF u hu
          have i := I5 h1 c ((60 + (j - 11)) :: F) R (o + 1) bs (k1 + 1) k2 v (nW tp n σ) trivial T1 hF1 hR (by rw [List.length_cons]; omega) (by omega) (by omega)
          revert i
          cases G 5 (o + 1) (nW tp n σ) with
          | none => intro _; exact trivial
          | some s =>
            cases s with
            | inl e => intro i; exact FLQ.of i e1 q1
            | inr q =>
              rintro ⟨h2, a, b, e2, fa, fb, pg, T2, q2⟩
              refine ⟨h2, a, b, e1.trans e2, fa, fb, by show σ.1 < q.2.1; omega, ?_, q1.trans q2⟩
              show RQ h2 x tp n w q.2 (c ++ (q.1 ++ [60 + (j - 11)]) ++ F) R (o - F.length) bs
              rw [List.length_cons, show o + 1 - (F.length + 1) = o - F.length by omega, show c ++ q.1 ++ (60 + (j - 11)) :: F = c ++ (q.1 ++ [60 + (j - 11)]) ++ F by simp] at T2
              exact T2
        · rw [if_neg z3]
          exact y2 (by omega) (by omega) (by omega)
      · rw [if_neg z2]
        have wb : wB2 tp n w σ 0 11 = some j := by
          unfold wB2
          rw [wj]
          show (if 0 ≤ j ∧ j < 11 ∧ alW w j = true then some j else none) = some j
          rw [if_pos ⟨by omega, by omega, z1⟩]
        obtain ⟨h1, e, T1, q⟩ := e_word (k1 := k1) (k2 := k2) (v := v) T tb hn hw wb n23 n24 rfl hF hR ho
        exact ⟨h1, FU, k2, e, by show 1602 ≤ FU + _; unfold FU; omega, by show 1602 ≤ k2 + (nW tp n σ).1; omega, nw, T1, q⟩
    · rw [if_neg z1]
      have wb : ∀ lo hi, wB2 tp n w σ lo hi = none := by
        intro lo hi
        unfold wB2
        rw [wj]
        show (if lo ≤ j ∧ j < hi ∧ alW w j = true then some j else none) = none
        rw [if_neg (fun y => z1 y.2.2)]
      exact (e_num (k1 := k1) (k2 := k2) (v := v) T tb hn hw n40 n23 n24 (wb _ _) (wb _ _) (by omega)).2.2 nN
theorem s_pair (tb : ∀ j, tp j ≤ 255) (hn : n ≤ 1600) (hw : w < 4) (I3 : Smm x tp n w (G 3)) : Prt x tp n w (fun σ => isW tp n σ 23 = true ∨ isW tp n σ 24 = true) (pPair tp n G) := by
  intro h c F R o bs k1 k2 v σ hH T hF hR ho f1 f2
  obtain ⟨i, hi, iw⟩ : ∃ i, (i = 23 ∨ i = 24) ∧ isW tp n σ i = true := by
    rcases hH with y | y
    · exact ⟨23, .inl rfl, y⟩
    · exact ⟨24, .inr rfl, y⟩
  have sn := T.1.2.1.1
  have lb := T.2.2.2.2
  have o6 := T.2.2.2.1
  obtain ⟨k1, rfl⟩ : ∃ j, k1 = j + 2 := ⟨k1 - 2, by omega⟩
  obtain ⟨y1, y2, y3⟩ := e_pair (k1 := k1 + 1) (k2 := k2) (v := v) T tb hn hw hi iw (by omega) (by omega)
  have nw := (nW_ok iw).2
  obtain ⟨t, ht, t2⟩ : ∃ t, i - 2 = t ∧ (t = 21 ∨ t = 22) := ⟨i - 2, rfl, by omega⟩
  have cl : [if isW tp n σ 23 = true then 5 else 6] = brC (t + 2) := by
    rcases hi with rfl | rfl
    · rw [if_pos iw, ← ht]; rfl
    · have n23 : ¬ isW tp n σ 23 = true := fun y => absurd (isW_inj (by omega) (by omega) y iw) (by omega)
      rw [if_neg n23, ← ht]; rfl
  rw [ht] at y1
  unfold pPair
  by_cases z1 : isS tp n (nW tp n σ) 40 = true
  · rw [if_pos z1]
    have ns := (nS_ok z1).2
    by_cases z2 : o < 6
    · rw [if_pos z2]
      obtain ⟨h1, e1, T1, q1⟩ := y1 z1 z2
      have tB : isBr t = true := by rcases t2 with rfl | rfl <;> rfl
      have tB2 : isBr (t + 2) = true := by rcases t2 with rfl | rfl <;> rfl
      have i := I3 h1 c (t :: (F ++ R)) (o + 1) bs (k1 + 1) k2 v (nS tp n (nW tp n σ)) T1 (.inr ⟨by show bs < (F ++ R).length + 1; omega, t, F ++ R, rfl, tB⟩) (fun u hu => by cases hu; omega) (by omega) (by omega)
      revert i
      cases G 3 (o + 1) (nS tp n (nW tp n σ)) with
      | none => intro _; exact trivial
      | some s =>
        cases s with
        | inl e => intro i; exact FLQ.of i e1 q1
        | inr q =>
          rintro ⟨h2, a, b, cc, P, e2, fa, fb, pg, T2, eq, hP, no, q2⟩
          have sn2 := T2.1.2.1.1
          show PrtR x tp n w σ.1 (if isS tp n q.2 44 = true then bR (G 3 (o + 1) (nS tp n q.2)) fun c2 σ3 => if isS tp n σ3 41 = true then ok (q.1 ++ c2 ++ [if isW tp n σ 23 = true then 5 else 6]) (nS tp n σ3) else fl 1 σ3.1 else fl 1 q.2.1) h c F R o bs (k1 + 2) k2 v
          by_cases z5 : isS tp n q.2 44 = true
          · rw [if_pos z5]
            obtain ⟨h3, e3, T3, q3⟩ := a_comma (k1 := a) (k2 := b) (v := v) T2 tb hn rfl (ops_nb hP) t2 lb z5 (by omega) (by omega)
            have ns2 := (nS_ok z5).2
            have i := I3 h3 (c ++ cc ++ P) ((t + 2) :: (F ++ R)) (o + 1) bs FU (b - 1) v (nS tp n q.2) T3 (.inr ⟨by show bs < (F ++ R).length + 1; omega, t + 2, F ++ R, rfl, tB2⟩) (fun u hu => by cases hu; omega) (by unfold FU; omega) (by omega)
            revert i
            cases G 3 (o + 1) (nS tp n q.2) with
            | none => intro _; exact trivial
            | some s =>
              cases s with
              | inl e => intro i; exact FLQ.of i (e1.trans (e2.trans e3)) ((q1.trans q2).trans q3)
              | inr q' =>
                rintro ⟨h4, a', b', cc', P', e4, fa', fb', pg', T4, eq', hP', no', q4⟩
                have sn4 := T4.1.2.1.1
                show PrtR x tp n w σ.1 (if isS tp n q'.2 41 = true then ok (q.1 ++ q'.1 ++ [if isW tp n σ 23 = true then 5 else 6]) (nS tp n q'.2) else fl 1 q'.2.1) h c F R o bs (k1 + 2) k2 v
                by_cases z6 : isS tp n q'.2 41 = true
                · rw [if_pos z6]
                  obtain ⟨a', rfl⟩ : ∃ j, a' = j + 1 := ⟨a' - 1, by omega⟩
                  obtain ⟨h5, e5, T5, q5⟩ := a_close (k1 := a') (k2 := b') (v := v) T4 tb hn rfl (ops_nb hP') (by omega) lb rfl hF hR (by omega) z6
                  have ns6 := (nS_ok z6).2
                  refine ⟨h5, a', b', e1.trans (e2.trans (e3.trans (e4.trans e5))), by show 1602 ≤ a' + (nS tp n q'.2).1; omega, by show 1602 ≤ b' + (nS tp n q'.2).1; omega, by show σ.1 < (nS tp n q'.2).1; omega, ?_, (((q1.trans q2).trans q3).trans q4).trans q5⟩
                  show RQ h5 x tp n w (nS tp n q'.2) (c ++ (q.1 ++ q'.1 ++ [if isW tp n σ 23 = true then 5 else 6]) ++ F) R (o - F.length) bs
                  rw [show c ++ cc ++ P ++ cc' ++ P' ++ brC (t + 2) ++ F = c ++ (q.1 ++ q'.1 ++ [if isW tp n σ 23 = true then 5 else 6]) ++ F by rw [eq, eq', cl]; simp, show o + 1 - 1 - F.length = o - F.length by omega] at T5
                  exact T5
                · rw [if_neg z6]
                  have := m_fails (v := v) T4 tb hn hP' (t := t + 2) tB2 lb no' (by rw [if_neg (by omega)]; exact isS_f z6) fa' fb'
                  exact this.of (e1.trans (e2.trans (e3.trans e4))) (((q1.trans q2).trans q3).trans q4)
          · rw [if_neg z5]
            have := m_fails (v := v) T2 tb hn hP (t := t) tB lb no (by rw [if_pos t2]; exact isS_f z5) fa fb
            exact this.of (e1.trans e2) (q1.trans q2)
    · rw [if_neg z2]
      exact y2 z1 (by omega)
  · rw [if_neg z1]
    exact y3 (isS_f z1)
end Rj
