/-! THE TEXTS: the reference reads a question -/
def AR (x : Nat) (h : aH) : Option (Int64 × aH) := bd (f_X12_qKind (x + 107) h) fun v36 h37 => ko h37 (x + 107) 11 <| if (hI h37 (x + 107) 5) = 0 then if 3 ≤ v36 then f_X12_ask_98 (x + 107) v36 h37 else bd (f_X12_qTest (x + 107) h37) fun _ h43 => f_X12_ask_109 (x + 107) v36 h43 else f_X12_ask_98 (x + 107) v36 h37
/-- what the reading leaves -/
def AsR (x n : Nat) (r : Option ((Nat × Nat) ⊕ (Nat × List Nat))) (h : aH) (s : Option (Int64 × aH)) : Prop := match r with
  | none => True
  | some (.inl e) => ∃ k h1, s = f_X12_ask_133 (x + 107) (nI k) h1 ∧ hI h1 (x + 107) 5 = nI e.1 ∧ hI h1 (x + 107) 6 = nI e.2 ∧ (1 ≤ e.1 ∧ e.1 ≤ 100) ∧ QX x h h1
  | some (.inr q) => ∃ h1, s = f_X12_ask_133 (x + 107) (nI q.1) h1 ∧ hI h1 (x + 107) 5 = nI 0 ∧ hI h1 (x + 107) 6 = -nI 1 ∧ QQ h1 x 3 q.2 [] 0 0 ∧ q.1 < 6 ∧ QX x h h1
section Al
variable {h : aH} {x n : Nat} {tp : Nat → Nat} {σ : tyT}
theorem a_109b {k m : Nat} (S : MS h (x + 107)) (bad : hI h (x + 107) 5 = nI k) (h1 : 1 ≤ k) (h2 : k ≤ 100) : f_X12_ask_109 (x + 107) (nI m) h = f_X12_ask_133 (x + 107) (nI m) h := by
  unfold f_X12_ask_109
  rw [ko_t S.k, bad, if_neg (nI_n0 h1 h2)]
theorem a_98b {k m : Nat} (S : MS h (x + 107)) (bad : hI h (x + 107) 5 = nI k) (h1 : 1 ≤ k) (h2 : k ≤ 100) : f_X12_ask_98 (x + 107) (nI m) h = f_X12_ask_133 (x + 107) (nI m) h := by
  unfold f_X12_ask_98
  rw [ko_t S.k, bad, if_neg (nI_n0 h1 h2)]
  exact a_109b S bad h1 h2
theorem a_109 {k : Nat} (A : RA h x tp n σ) (tb : ∀ j, tp j ≤ 255) (hn : n ≤ 1600) : f_X12_ask_109 (x + 107) (nI k) h = f_X12_ask_133 (x + 107) (nI k) (if σ.1 < n then flH h x 1 σ.1 else h) := by
  have S := A.1.1
  have lk := m_lookA A tb hn
  have at0 : hI h (x + 107) 2 = nI σ.1 := A.2.2.2.1
  unfold f_X12_ask_109
  rw [ko_t S.k, A.2.2.1, if_pos (show nI 0 = (0 : Int32) from rfl), bd_t lk]
  by_cases z : σ.1 < n
  · rw [if_pos z, show btT tp n σ = nI (tp σ.1) from if_pos z, if_neg (nI_nm (by have := tb σ.1; omega)), ko_t S.k, at0, bd_t (show f_X12_fail (x + 107) 1 (nI σ.1) h = _ from m_fail S A.2.2.1 1 σ.1)]
    rfl
  · rw [if_neg z, show btT tp n σ = -nI 1 from if_neg z, if_pos (show (-nI 1 : Int32) = -1 from rfl)]
theorem m_askP (T : RQ h x tp n 3 σ [] [] 0 0) (tb : ∀ j, tp j ≤ 255) (hn : n ≤ 1600) : AsR x n (pAsk tp n σ) h (AR x h) := by
  have kd := m_kind T.1 tb hn
  obtain ⟨lk, A, Q⟩ := T.a tb hn
  have S0 := A.1.1
  obtain ⟨h0, hh0⟩ : ∃ h0, h0 = sI h (x + 107) 2 (nI σ.1) := ⟨_, rfl⟩
  have q0 : QX x h h0 := by rw [hh0]; exact qx_s (by unfold QC; omega)
  rw [← hh0] at lk A Q kd S0
  unfold pAsk
  cases qk : qKd tp n σ with
  | none =>
    rw [qk] at kd
    have f5 := fl_5 (h := h0) (x := x) (k := 1) (p := σ.1)
    have Mf := A.1.qx (qx_fl (h := h0) (x := x) (k := 1) (p := σ.1))
    refine ⟨5, flH h0 x 1 σ.1, ?_, f5.1, f5.2, ⟨Nat.le_refl _, by show 1 ≤ 100; omega⟩, q0.trans qx_fl⟩
    unfold AR
    rw [bd_t kd, ko_t Mf.1.k, f5.1, if_neg (show ¬ nI 1 = (0 : Int32) by decide)]
    exact a_98b Mf.1 f5.1 (by omega) (by omega)
  | some k =>
    rw [qk] at kd
    obtain ⟨k6, iw⟩ : k < 6 ∧ isW tp n σ (25 + k) = true := by
      have := fnd_lt _ _ _ qk
      exact ⟨by omega, this.2.2⟩
    have T1 := A.w iw
    have nw := nW_ok iw
    have Q1 : QQ (tkH h0 x (rn isL tp n σ.1)) x 3 [] [] 0 0 := (Q.s (by omega) _).s (by omega) _
    have RQ1 : RQ (tkH h0 x (rn isL tp n σ.1)) x tp n 3 (nW tp n σ) [] [] 0 0 := ⟨T1, Q1, by simp, by omega, by simp⟩
    have S1 := T1.1.1
    have q1 : QX x h (tkH h0 x (rn isL tp n σ.1)) := q0.trans qx_tk
    generalize tkH h0 x (rn isL tp n σ.1) = h1 at *
    -- what follows the formula
    have fin : ∀ r s, FrR x tp n 3 r h1 s → (∀ h2, s = some ((), h2) → AR x h = f_X12_ask_109 (x + 107) (nI k) h2) → AsR x n (match r with
        | none => none
        | some (.inl e) => some (.inl e)
        | some (.inr q) => if q.2.1 < n then some (.inl (1, q.2.1)) else some (.inr (k, q.1))) h (AR x h) := by
      intro r s fr st
      cases r with
      | none => exact trivial
      | some r =>
        cases r with
        | inl e =>
          obtain ⟨h2, e2, b5, b6, b7, q2⟩ := fr
          have S2 := (T1.1.qx q2).1
          exact ⟨k, h2, (st h2 e2).trans (a_109b S2 b5 b7.1 b7.2), b5, b6, b7, q1.trans q2⟩
        | inr q =>
          obtain ⟨h2, e2, A2, Q2, l2, q2⟩ := fr
          have e3 := (st h2 e2).trans (a_109 (k := k) A2 tb hn)
          show AsR x n (if q.2.1 < n then some (.inl (1, q.2.1)) else some (.inr (k, q.1))) h (AR x h)
          by_cases z : q.2.1 < n
          · rw [if_pos z] at e3 ⊢
            have f5 := fl_5 (h := h2) (x := x) (k := 1) (p := q.2.1)
            exact ⟨k, _, e3, f5.1, f5.2, ⟨Nat.le_refl _, by show 1 ≤ 100; omega⟩, (q1.trans q2).trans qx_fl⟩
          · rw [if_neg z] at e3 ⊢
            exact ⟨h2, e3, A2.2.2.1, A2.2.2.2.2.1, Q2, k6, q1.trans q2⟩
    dsimp only
    by_cases z : k < 3
    · rw [if_pos z]
      refine fin _ _ (m_testQ RQ1 tb hn (by omega) 100 (by omega)) (fun h2 e2 => ?_)
      unfold AR
      rw [bd_t kd, ko_t S1.k, T1.2.2.1, if_pos (show nI 0 = (0 : Int32) from rfl), if_neg (show ¬ (3 : Int32) ≤ nI k from fun y => by have y : nI 3 ≤ nI k := y; rw [nI_leI (by omega) (by omega)] at y; omega), bd_t e2]
    · rw [if_neg z]
      refine fin _ _ (m_sumQ RQ1 tb hn (by omega) 100) (fun h2 e2 => ?_)
      unfold AR
      rw [bd_t kd, ko_t S1.k, T1.2.2.1, if_pos (show nI 0 = (0 : Int32) from rfl), if_pos (show (3 : Int32) ≤ nI k from by show nI 3 ≤ nI k; rw [nI_leI (by omega) (by omega)]; omega)]
      unfold f_X12_ask_98
      rw [ko_t S1.k, T1.2.2.1, if_pos (show nI 0 = (0 : Int32) from rfl), bd_t e2]
end Al
