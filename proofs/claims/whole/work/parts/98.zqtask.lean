/-! THE TEXTS: questions: their pure reading, and the reference's -/
def qKd (tp : Nat → Nat) (n : Nat) (σ : tyT) : Option Nat := fnd (fun j => isW tp n σ (25 + j)) 6 0
/-- a question: a fault and its place, or its kind and its codes -/
def pAsk (tp : Nat → Nat) (n : Nat) (σ : tyT) : Option ((Nat × Nat) ⊕ (Nat × List Nat)) := match qKd tp n σ with
  | none => some (.inl (1, σ.1))
  | some k => match pD tp n 3 100 (if k < 3 then 0 else 3) 0 (nW tp n σ) with
    | none => none
    | some (.inl e) => some (.inl e)
    | some (.inr q) => if q.2.1 < n then some (.inl (1, q.2.1)) else some (.inr (k, q.1))
section Ak
variable {h : aH} {x n w : Nat} {tp : Nat → Nat} {σ : tyT}
theorem here_rt (T : RT h x tp n σ) (tb : ∀ j, tp j ≤ 255) (hn : n ≤ 1600) {A : Nat} : f_X12_isHere (x + 107) A h = f_X12_isHere (x + 107) A (sI h (x + 107) 2 (nI σ.1)) := by
  obtain ⟨lk, A1⟩ := m_look T tb hn
  have lk1 := m_lookA A1 tb hn
  unfold f_X12_isHere
  rw [ko_t T.1.1.k, T.2.2.1, if_pos (show nI 0 = (0 : Int32) from rfl), bd_t lk, ko_t A1.1.1.k, A1.2.2.1, if_pos (show nI 0 = (0 : Int32) from rfl), bd_t lk1]
theorem takes_rt (T : RT h x tp n σ) (tb : ∀ j, tp j ≤ 255) (hn : n ≤ 1600) {j : Nat} (hj : j < 6) : (isW tp n σ (25 + j) = true → f_X12_takes (x + 107) (x + 107 + 39 + j) h = some (nI 1, tkH (sI h (x + 107) 2 (nI σ.1)) x (rn isL tp n σ.1))) ∧ (isW tp n σ (25 + j) = false → f_X12_takes (x + 107) (x + 107 + 39 + j) h = some (nI 0, sI h (x + 107) 2 (nI σ.1))) := by
  obtain ⟨lk, A1⟩ := m_look T tb hn
  have as : ∀ j, j < 6 → askW j = 25 + j := by decide
  have hr := here_rt T tb hn (A := x + 107 + 39 + j)
  have ha := m_hereA A1 tb hn (i := j) (by omega)
  rw [as j hj] at ha
  have k := (A1.1.1.aw j (by omega)).2
  rw [as j hj] at k
  have tk := m_takes A1 hn k (by omega) ha
  have e : f_X12_takes (x + 107) (x + 107 + 39 + j) h = f_X12_takes (x + 107) (x + 107 + 39 + j) (sI h (x + 107) 2 (nI σ.1)) := by
    unfold f_X12_takes
    rw [ko_t T.1.1.k, hr, ko_t A1.1.1.k]
  rw [e]
  exact tk
theorem m_kind (T : RT h x tp n σ) (tb : ∀ j, tp j ≤ 255) (hn : n ≤ 1600) : f_X12_qKind (x + 107) h = match qKd tp n σ with
    | none => some (nI 5, flH (sI h (x + 107) 2 (nI σ.1)) x 1 σ.1)
    | some k => some (nI k, tkH (sI h (x + 107) 2 (nI σ.1)) x (rn isL tp n σ.1)) := by
  obtain ⟨lk, A⟩ := m_look T tb hn
  obtain ⟨h0, hh0⟩ : ∃ h0, h0 = sI h (x + 107) 2 (nI σ.1) := ⟨_, rfl⟩
  have t0 := takes_rt T tb hn (j := 0) (by omega)
  have e0 : sI h0 (x + 107) 2 (nI σ.1) = h0 := by rw [hh0]; exact sI_id (by rw [hI_sI, if_pos ⟨rfl, rfl⟩])
  rw [← hh0] at A t0 ⊢
  have tj : ∀ j, j < 6 → (isW tp n σ (25 + j) = true → f_X12_takes (x + 107) (x + 107 + 39 + j) h0 = some (nI 1, tkH h0 x (rn isL tp n σ.1))) ∧ (isW tp n σ (25 + j) = false → f_X12_takes (x + 107) (x + 107 + 39 + j) h0 = some (nI 0, h0)) := by
    intro j hj
    have := takes_rt A.rt tb hn (j := j) hj
    rw [e0] at this
    exact this
  have S := T.1.1
  have S0 := A.1.1
  have r : ∀ j, j < 6 → hR h0 (x + 107) (66 + j) = some (x + 107 + 39 + j) := fun j hj => (S0.aw j (by omega)).1
  have r66 : hR h (x + 107) 66 = some (x + 107 + 39 + 0) := (S.aw 0 (by omega)).1
  have o0 : nI 0 = (0 : Int32) := rfl
  have o1 : ¬ nI 1 = (0 : Int32) := by decide
  have f1 : ∀ k j, isW tp n σ (25 + j) = true → fnd (fun j => isW tp n σ (25 + j)) (k + 1) j = some j := fun k j z => fnd_1 (p := fun j => isW tp n σ (25 + j)) z
  have f2 : ∀ k j, ¬ isW tp n σ (25 + j) = true → fnd (fun j => isW tp n σ (25 + j)) (k + 1) j = fnd (fun j => isW tp n σ (25 + j)) k (j + 1) := fun k j z => fnd_2 (p := fun j => isW tp n σ (25 + j)) z
  unfold f_X12_qKind qKd
  rw [ko_t S.k, kr_t r66]
  by_cases z0 : isW tp n σ (25 + 0) = true
  · rw [bd_t (t0.1 z0), if_neg o1, f1 5 0 z0]
    rfl
  rw [bd_t (t0.2 (isW_f z0)), if_pos o0, f2 5 0 z0, ko_t S0.k, kr_t (r 1 (by omega))]
  by_cases z1 : isW tp n σ (25 + 1) = true
  · rw [bd_t ((tj 1 (by omega)).1 z1), if_neg o1, f1 4 1 z1]
    rfl
  rw [bd_t ((tj 1 (by omega)).2 (isW_f z1)), if_pos o0, f2 4 1 z1, ko_t S0.k, kr_t (r 2 (by omega))]
  by_cases z2 : isW tp n σ (25 + 2) = true
  · rw [bd_t ((tj 2 (by omega)).1 z2), if_neg o1, f1 3 2 z2]
    rfl
  rw [bd_t ((tj 2 (by omega)).2 (isW_f z2)), if_pos o0, f2 3 2 z2, ko_t S0.k, kr_t (r 3 (by omega))]
  by_cases z3 : isW tp n σ (25 + 3) = true
  · rw [bd_t ((tj 3 (by omega)).1 z3), if_neg o1, f1 2 3 z3]
    rfl
  rw [bd_t ((tj 3 (by omega)).2 (isW_f z3)), if_pos o0, f2 2 3 z3, ko_t S0.k, kr_t (r 4 (by omega))]
  by_cases z4 : isW tp n σ (25 + 4) = true
  · rw [bd_t ((tj 4 (by omega)).1 z4), if_neg o1, f1 1 4 z4]
    rfl
  rw [bd_t ((tj 4 (by omega)).2 (isW_f z4)), if_pos o0, f2 1 4 z4]
  have k5 : hK h0 (x + 107 + 39 + 5) = some (.inr (.char, (WD 30).length)) := (S0.aw 5 (by omega)).2
  have i5 : f_X12_isHere (x + 107) (x + 107 + 39 + 5) h0 = some (b2i (isW tp n σ 30), h0) := m_hereA A tb hn (i := 5) (by omega)
  unfold f_X12_qKind_76
  rw [if_pos rfl, ko_t S0.k, kr_t (r 5 (by omega))]
  by_cases z5 : isW tp n σ (25 + 5) = true
  · rw [bd_t (m_asks1 A hn k5 (by omega) i5 z5), f1 0 5 z5]
    rfl
  · rw [bd_t (m_asks0 A hn k5 (by omega) i5 (isW_f z5)), f2 0 5 z5]
    rfl
end Ak
