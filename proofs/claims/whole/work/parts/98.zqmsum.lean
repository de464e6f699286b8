/-! THE TEXTS: a whole sum in the reference -/
section Sm
variable {h : aH} {x n w o bs : Nat} {tp : Nat → Nat} {σ : tyT} {c W : List Nat}
theorem QQ.sb (Q : QQ h x w c W o bs) {bs' : Nat} (hb : bs' ≤ 1650) : QQ (sI h (x + 107) 96 (nI bs')) x w c W o bs' := by
  obtain ⟨s1, ⟨b1, b2⟩, ⟨t1, t2⟩, u4, u5, u6, u7, u8, u9, u10⟩ := Q
  exact ⟨s1.of rfl rfl, ⟨by rw [hI_sI, if_neg (by omega)]; exact b1, fun i hi => by rw [hI_sI, if_neg (by omega)]; exact b2 i hi⟩, ⟨by rw [hI_sI, if_neg (by omega)]; exact t1, fun i hi => by rw [hI_sI, if_neg (by omega)]; exact t2 i hi⟩, by rw [hI_sI, if_neg (by omega)]; exact u4, by rw [hI_sI, if_pos ⟨rfl, rfl⟩], by rw [hI_sI, if_neg (by omega)]; exact u6, u7, u8, hb, u10⟩
theorem m_sums (T : RQ h x tp n w σ c W o bs) (tb : ∀ j, tp j ≤ 255) (hn : n ≤ 1600) (hw : w < 4) (hd : ∀ u, W.head? = some u → 5 ≤ u) (f : Nat) : match pD tp n w f 3 o σ with
  | none => True
  | some (.inl e) => FLQ x h (f_X12_qSums (x + 107) h) e.1 e.2
  | some (.inr q) => ∃ h1, f_X12_qSums (x + 107) h = some ((), h1) ∧ RA h1 x tp n q.2 ∧ RQ h1 x tp n w q.2 (c ++ q.1) W o bs ∧ σ.1 < q.2.1 ∧ QX x h h1 := by
  obtain ⟨R, Q, lc, o6, lb⟩ := T
  have S := Q.1
  have d1 := Q.2.2.1.1
  have a5 := Q.2.2.2.2.1
  have a8 := Q.2.2.2.2.2.2.2.1
  have a9 := Q.2.2.2.2.2.2.2.2.1
  have y0 : QY x h (sI h (x + 107) 96 (nI W.length)) := qy_s (by unfold QD; omega)
  have R0 := R.qy y0
  have T0 : RQ (sI h (x + 107) 96 (nI W.length)) x tp n w σ c W o W.length := ⟨R0, Q.sb a8, lc, o6, Nat.le_refl _⟩
  obtain ⟨fn, hfn⟩ : ∃ m, FU = m + 1 ∧ 1700 ≤ m := ⟨9999, rfl, by omega⟩
  have e0 : f_X12_qSums (x + 107) h = PE FU fn x (nI bs) (sI h (x + 107) 96 (nI W.length)) := by
    unfold f_X12_qSums
    rw [ko_t S.k]
    simp only [nm]
    rw [a5, d1, hfn.1]
    have := again (k2 := fn) (x := x) (v := nI bs) R0.1.1 R0.2.2.1
    rw [hfn.1] at this
    exact this
  have i := (s_all (x := x) tb hn hw f).1 (sI h (x + 107) 96 (nI W.length)) c W o W.length FU fn (nI bs) σ T0 (.inl rfl) hd (by unfold FU; omega) (by omega)
  revert i
  cases pD tp n w f 3 o σ with
  | none => intro _; exact trivial
  | some r =>
    cases r with
    | inl e => intro i; exact FLQ.of i e0 y0.x
    | inr q =>
      rintro ⟨h1, a, b, cc, P, e1, fa, fb, pg, T1, eq, hP, no, q1⟩
      have sn1 := T1.1.2.1.1
      have lc1 := T1.2.2.1
      obtain ⟨h2, e2, A2, Q2, q2⟩ := a_end (k1 := a) (k2 := b) (v := nI bs) T1 tb hn rfl (ops_nb hP) rfl no (by omega) (by omega)
      have y2 : QY x h2 (sI h2 (x + 107) 96 (nI bs)) := qy_s (by unfold QD; omega)
      have A3 := A2.qy y2
      refine ⟨_, e0.trans (e1.trans e2), A3, ⟨A3.rt, ?_, ?_, o6, lb⟩, pg, ((y0.x.trans q1).trans q2).trans y2.x⟩
      · rw [eq, ← List.append_assoc]
        exact Q2.sb a9
      · rw [eq]
        simp only [List.length_append] at lc1 ⊢
        omega
end Sm
