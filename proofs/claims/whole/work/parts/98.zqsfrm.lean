/-! THE TEXTS: a whole formula in the reference -/
def frH (h : aH) (x w : Nat) : aH := sI (sI (sI (sI (sI h (x + 107) 46 (nI w)) (x + 107) 92 (nI 0)) (x + 107) 94 (nI 0)) (x + 107) 95 (nI 0)) (x + 107) 96 (nI 0)
def tgW (w : Nat) : Nat := if w = 2 then 0 else 3
/-- what a formula leaves: a fault, or its codes -/
def FrR (x : Nat) (tp : Nat → Nat) (n w : Nat) (r : tyR) (h : aH) (s : Option (Unit × aH)) : Prop := match r with
  | none => True
  | some (.inl e) => FLT x h s e.1 e.2
  | some (.inr q) => ∃ h1, s = some ((), h1) ∧ RA h1 x tp n q.2 ∧ QQ h1 x w q.1 [] 0 0 ∧ q.1.length ≤ q.2.1 ∧ QX x h h1
section Fr
variable {h : aH} {x n w : Nat} {tp : Nat → Nat} {σ : tyT}
theorem fr_ok (T : RT h x tp n σ) : RQ (frH h x w) x tp n w σ [] [] 0 0 := by
  obtain ⟨M, ok_, bad, p, e2, pl, sp, ed⟩ := T
  have e : ∀ j, ¬ (j = 46 ∨ j = 92 ∨ j = 94 ∨ j = 95 ∨ j = 96) → hI (frH h x w) (x + 107) j = hI h (x + 107) j := by
    intro j hj
    unfold frH
    rw [hI_sI, if_neg (by omega), hI_sI, if_neg (by omega), hI_sI, if_neg (by omega), hI_sI, if_neg (by omega), hI_sI, if_neg (by omega)]
  have M1 : MX (frH h x w) x tp n := ((((M.s (by omega) _).s (by omega) _).s (by omega) _).s (by omega) _).s (by omega) _
  refine ⟨⟨M1, ok_, by rw [e 5 (by omega)]; exact bad, p, by rw [e 2 (by omega)]; exact e2, pl, sp, ?_⟩, ⟨M1.1, ⟨?_, fun i hi => by cases hi⟩, ⟨?_, fun i hi => by cases hi⟩, ?_, ?_, ?_, by simp, by simp, by omega, fun v hv => by cases hv⟩, by simp, by omega, by simp⟩
  · unfold ED at ed ⊢
    rw [e 6 (by omega), e 4 (by omega)]
    exact ed
  · unfold frH; rw [hI_sI, if_neg (by omega), hI_sI, if_neg (by omega), hI_sI, if_neg (by omega), hI_sI, if_pos ⟨rfl, rfl⟩]; rfl
  · unfold frH; rw [hI_sI, if_neg (by omega), hI_sI, if_neg (by omega), hI_sI, if_pos ⟨rfl, rfl⟩]; rfl
  · unfold frH; rw [hI_sI, if_neg (by omega), hI_sI, if_pos ⟨rfl, rfl⟩]
  · unfold frH; rw [hI_sI, if_pos ⟨rfl, rfl⟩]
  · unfold frH; rw [hI_sI, if_neg (by omega), hI_sI, if_neg (by omega), hI_sI, if_neg (by omega), hI_sI, if_neg (by omega), hI_sI, if_pos ⟨rfl, rfl⟩]
theorem FLQ.t {h1 : aH} {r : Option (Unit × aH)} {k p : Nat} (f : FLQ x h1 r k p) : FLT x h1 r k p := by
  obtain ⟨g, e1, b5, b6, b7, -, y⟩ := f
  exact ⟨g, e1, b5, b6, b7, y⟩
theorem m_sumQ (T : RQ h x tp n w σ [] [] 0 0) (tb : ∀ j, tp j ≤ 255) (hn : n ≤ 1600) (hw : w < 4) (f : Nat) : FrR x tp n w (pD tp n w f 3 0 σ) h (f_X12_qSums (x + 107) h) := by
  have sm := m_sums T tb hn hw (fun u hu => by cases hu) f
  revert sm
  cases pD tp n w f 3 0 σ with
  | none => intro _; exact trivial
  | some r =>
    cases r with
    | inl e => intro i; exact i.t
    | inr q =>
      rintro ⟨h1, e1, A1, T1, pg, q1⟩
      have l := T1.2.2.1
      rw [List.nil_append] at l
      exact ⟨h1, e1, A1, T1.2.1, l, q1⟩
theorem m_testQ (T : RQ h x tp n w σ [] [] 0 0) (tb : ∀ j, tp j ≤ 255) (hn : n ≤ 1600) (hw : w < 4) (f : Nat) (hf : 54 < f) : FrR x tp n w (pD tp n w f 0 0 σ) h (f_X12_qTest (x + 107) h) := by
  have sm := (s_tests (x := x) tb hn hw f).1 0 (by omega) (by omega) h [] [] FU σ T (fun u hu => by cases hu) (by unfold FU; omega)
  revert sm
  cases pD tp n w f 0 0 σ with
  | none => intro _; exact trivial
  | some r =>
    cases r with
    | inl e => intro i; exact i
    | inr q =>
      rintro ⟨h1, a, b, cc, P, e1, fa, fb, pg, T1, eq, hP, m20, m19, q1⟩
      have sn := T1.1.2.1.1
      have l := T1.2.2.1
      have n25 : ¬ 25 ∈ P ++ [] := by
        intro y
        rw [List.append_nil] at y
        rcases hP 25 y with z | z <;> omega
      obtain ⟨h2, e2, A2, Q2, q2⟩ := t_end (k1 := a) (k2 := b) T1 tb hn m20 m19 n25 (by omega) (by omega)
      rw [show [] ++ cc ++ (P ++ []) = q.1 by rw [eq]; simp] at Q2
      refine ⟨h2, e1.trans e2, A2, Q2, ?_, q1.trans q2⟩
      rw [eq]
      simp only [List.length_append, List.nil_append, List.append_nil] at l ⊢
      exact l
theorem m_sum0 (T : RT h x tp n σ) (tb : ∀ j, tp j ≤ 255) (hn : n ≤ 1600) (hw : w < 4) (f : Nat) : FrR x tp n w (pD tp n w f 3 0 σ) (frH h x w) (f_X12_qSums (x + 107) (frH h x w)) := m_sumQ (fr_ok T) tb hn hw f
theorem m_test0 (T : RT h x tp n σ) (tb : ∀ j, tp j ≤ 255) (hn : n ≤ 1600) (hw : w < 4) (f : Nat) (hf : 54 < f) : FrR x tp n w (pD tp n w f 0 0 σ) (frH h x w) (f_X12_qTest (x + 107) (frH h x w)) := m_testQ (fr_ok T) tb hn hw f hf
end Fr
