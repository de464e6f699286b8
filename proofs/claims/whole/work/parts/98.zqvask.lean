/-! THE TEXTS: the class reads a question's kind -/
section Am
variable {h : aH} {x n : Nat} {tp : Nat → Nat} {σ : tyT}
theorem tkK_le : tkK tp n σ ≤ 4 := by
  unfold tkK
  by_cases a : σ.1 < n
  · rw [if_pos a]
    by_cases b : isL (tp σ.1) = true
    · rw [if_pos b]; by_cases c : σ.2 = true
      · rw [if_pos c]; omega
      · rw [if_neg c]; omega
    · rw [if_neg b]
      by_cases d : isD (tp σ.1) = true
      · rw [if_pos d]; by_cases c : σ.2 = true
        · rw [if_pos c]; omega
        · rw [if_neg c]; omega
      · rw [if_neg d]; omega
  · rw [if_neg a]; omega
theorem tkK_1 (e : tkK tp n σ = 1) : σ.1 < n ∧ isL (tp σ.1) = true ∧ σ.2 = false := by
  unfold tkK at e
  by_cases a : σ.1 < n
  · rw [if_pos a] at e
    by_cases b : isL (tp σ.1) = true
    · rw [if_pos b] at e
      by_cases c : σ.2 = true
      · rw [if_pos c] at e; omega
      · exact ⟨a, b, by simpa using c⟩
    · rw [if_neg b] at e
      by_cases d : isD (tp σ.1) = true
      · rw [if_pos d] at e
        by_cases c : σ.2 = true
        · rw [if_pos c] at e; omega
        · rw [if_neg c] at e; omega
      · rw [if_neg d] at e; omega
  · rw [if_neg a] at e; omega
theorem kd_cls (T : TS h x tp n σ) : (∃ k, k < 6 ∧ qKd tp n σ = some k ∧ isW tp n σ (25 + k) = true ∧ hI h (x + 105) 2 = nI 1 ∧ hI h (x + 105) 5 = nI (25 + k)) ∨ (qKd tp n σ = none ∧ ¬ (hI h (x + 105) 2 = nI 1 ∧ (25 : Int32) ≤ hI h (x + 105) 5)) := by
  by_cases e : ∃ i, i < 31 ∧ isW tp n σ i = true
  · obtain ⟨i, hi, z⟩ := e
    obtain ⟨q1, q2, q3, q4⟩ := isW_t z
    have k2 : hI h (x + 105) 2 = nI 1 := by
      rw [T.2.1]
      unfold tkK
      rw [if_pos q1, if_pos q2, if_neg (by rw [q3]; exact Bool.false_ne_true)]
    have v5 : hI h (x + 105) 5 = nI i := by
      rw [T.2.2.2.2]
      unfold tkV
      rw [if_pos q1, if_pos q2, (wv_iff hi).mpr q4]
      rfl
    have oth : ∀ j, j < 31 → ¬ j = i → isW tp n σ j = false := by
      intro j hj ne
      cases y : isW tp n σ j with
      | false => rfl
      | true => exact absurd (isW_inj hj hi y z) ne
    by_cases c : 25 ≤ i
    · left
      refine ⟨i - 25, by omega, ?_, ?_, k2, ?_⟩
      · unfold qKd
        refine fnd_eq 6 0 (i - 25) (by omega) (by omega) ?_ (fun j h1 h2 => oth (25 + j) (by omega) (by omega))
        show isW tp n σ (25 + (i - 25)) = true
        rw [show 25 + (i - 25) = i by omega]; exact z
      · rw [show 25 + (i - 25) = i by omega]; exact z
      · rw [show 25 + (i - 25) = i by omega]; exact v5
    · right
      refine ⟨?_, fun y => ?_⟩
      · unfold qKd
        exact fnd_no 6 0 (fun j h1 h2 => oth (25 + j) (by omega) (by omega))
      · have y2 : nI 25 ≤ nI i := by have := y.2; rw [v5] at this; exact this
        rw [nI_leI (by omega) (by omega)] at y2
        omega
  · right
    have no : ∀ i, i < 31 → isW tp n σ i = false := fun i hi => by
      cases q : isW tp n σ i with
      | false => rfl
      | true => exact absurd ⟨i, hi, q⟩ e
    refine ⟨?_, fun y => ?_⟩
    · unfold qKd
      exact fnd_no 6 0 (fun j h1 h2 => no (25 + j) (by omega))
    · have k1 : tkK tp n σ = 1 := by
        have l := tkK_le (tp := tp) (n := n) (σ := σ)
        have := y.1
        rw [T.2.1] at this
        exact (nI_eq (by omega) (by omega)).mp this
      obtain ⟨q1, q2, q3⟩ := tkK_1 k1
      have v5 : hI h (x + 105) 5 = opI (wv tp n σ) := by
        rw [T.2.2.2.2]
        unfold tkV
        rw [if_pos q1, if_pos q2]
      cases wq : wv tp n σ with
      | none =>
        have := y.2
        rw [v5, wq] at this
        exact absurd this (by decide)
      | some j =>
        have jl := wv_lt wq
        have w := (wv_iff jl).mp wq
        have : isW tp n σ j = true := by
          unfold isW
          rw [decide_eq_true q1, q2, q3, decide_eq_true w]
          rfl
        rw [no j jl] at this
        cases this
end Am
