/-! A MACHINE'S TEXT: the reference's names -/
theorem nmL_inj : ∀ (n : Nat) (l m : List Nat), l.length = n → (∀ c ∈ l, 1 ≤ c ∧ c ≤ 26) → (∀ c ∈ m, 1 ≤ c ∧ c ≤ 26) → nmL l = nmL m → l = m := by
  intro n
  induction n with
  | zero =>
    intro l m hl _ hm e
    rw [List.length_eq_zero_iff.mp hl] at e ⊢
    rcases List.eq_nil_or_concat m with rfl | ⟨m', d, rfl⟩
    · rfl
    · rw [List.concat_eq_append] at e hm
      rw [nmL_c] at e
      have := hm d (by simp)
      have e0 : nmL [] = 0 := rfl
      omega
  | succ n ih =>
    intro l m hl pl hm e
    rcases List.eq_nil_or_concat l with rfl | ⟨l', c, rfl⟩
    · cases hl
    rw [List.concat_eq_append] at e pl hl ⊢
    have hc := pl c (by simp)
    rcases List.eq_nil_or_concat m with rfl | ⟨m', d, rfl⟩
    · rw [nmL_c] at e
      have e0 : nmL [] = 0 := rfl
      omega
    · rw [List.concat_eq_append] at e hm ⊢
      have hd := hm d (by simp)
      rw [nmL_c, nmL_c] at e
      have e1 : c = d := by omega
      have e2 : nmL l' = nmL m' := by omega
      rw [e1, ih l' m' (by simpa using hl) (fun c hc' => pl c (by simp [hc'])) (fun c hc' => hm c (by simp [hc'])) e2]
theorem nm_l {v c : Nat} (h1 : 97 ≤ c) (h2 : c ≤ 255) : (((27 * lN v) + (nI c).toInt64) - 97) + 1 = lN (27 * v + (c - 96)) := by
  rw [← lN_nI c (by omega), show (27 : Int64) = vL 27 by decide, show (97 : Int64) = vL 97 by decide, show (1 : Int64) = vL 1 by decide, vL_n, vL_n, vL_n, vL_mul, vL_add, vL_sub, vL_add]
  congr 1
  omega
/-- letters to a number -/
def nmF (tp : Nat → Nat) : Nat → Nat → Nat → Nat
  | 0, _, v => v
  | d + 1, q, v => nmF tp d (q + 1) (27 * v + (tp q - 96))
theorem nmF_l (tp : Nat → Nat) : ∀ (d q v : Nat), nmF tp d q v = ((sub tp q d).map (fun c => c - 96)).foldl (fun v c => 27 * v + c) v := by
  intro d
  induction d with
  | zero => intro q v; rfl
  | succ d ih => intro q v; exact ih (q + 1) (27 * v + (tp q - 96))
section Bn
variable {h : aH} {x n : Nat} {tp : Nat → Nat} {σ : tyT}
theorem RA.wl (T : RA h x tp n σ) (q1 : σ.1 < n) (q2 : isL (tp σ.1) = true) : RT (tkH h x (rn isL tp n σ.1)) x tp n (nW tp n σ) := by
  have rl := rn_le (p := isL) (tp := tp) (n := n) (q := σ.1) (by omega)
  refine ⟨(T.1.s (by omega) _).s (by omega) _, (nWL_ok q1 q2).1, ?_, rn isL tp n σ.1, ?_, rn_ge _, rfl, ?_⟩
  · unfold tkH; rw [hI_sI, if_neg (by omega), hI_sI, if_neg (by omega)]; exact T.2.2.1
  · unfold tkH; rw [hI_sI, if_neg (by omega), hI_sI, if_pos ⟨rfl, rfl⟩]
  · refine ⟨by unfold tkH; rw [hI_sI, if_neg (by omega), hI_sI, if_neg (by omega)]; exact T.2.2.2.2.1, ?_⟩
    have v4 : hI (tkH h x (rn isL tp n σ.1)) (x + 107) 4 = nI (rn isL tp n σ.1) := by unfold tkH; rw [hI_sI, if_pos ⟨rfl, rfl⟩]
    by_cases c : sk tp n (rn isL tp n σ.1) = rn isL tp n σ.1
    · refine Or.inl ⟨decide_eq_true c, ?_⟩
      rw [v4]; show _ = nI (sk tp n (rn isL tp n σ.1)); rw [c]
    · exact Or.inr ⟨decide_eq_false c, Or.inr ⟨_, v4, Nat.le_refl _, fun y => c y.symm⟩⟩
theorem RA.s36 (T : RA h x tp n σ) {j : Nat} {v : Int32} (hj : 7 ≤ j) : RA (sI h (x + 107) j v) x tp n σ := by
  obtain ⟨M, o, b, a2, ed⟩ := T
  refine ⟨M.s (by omega) _, o, by rw [hI_sI, if_neg (by omega)]; exact b, by rw [hI_sI, if_neg (by omega)]; exact a2, ?_⟩
  unfold ED at ed ⊢
  rw [hI_sI, if_neg (by omega), hI_sI, if_neg (by omega)]
  exact ed
/-- is a word of the language's own here -/
theorem m_own (A : RA h x tp n σ) (tb : ∀ j, tp j ≤ 255) (hn : n ≤ 1600) : f_X12_isOwnHere (x + 107) h = some (b2i ((fnd (fun i => isW tp n σ i) 25 0).isSome), h) := by
  have S := A.1.1
  have r : ∀ i, i < 25 → hR h (x + 107) (11 + i) = some (x + 107 + 3 + i) := fun i hi => (S.mw i hi).1
  have hM : ∀ i, i < 25 → f_X12_isHere (x + 107) (x + 107 + 3 + i) h = some (b2i (isW tp n σ i), h) := fun i hi => m_hereM A tb hn hi
  have f1 : ∀ k j, isW tp n σ j = true → fnd (fun i => isW tp n σ i) (k + 1) j = some j := fun k j z => fnd_1 (p := fun i => isW tp n σ i) z
  have f2 : ∀ k j, ¬ isW tp n σ j = true → fnd (fun i => isW tp n σ i) (k + 1) j = fnd (fun i => isW tp n σ i) k (j + 1) := fun k j z => fnd_2 (p := fun i => isW tp n σ i) z
  have o1 : ¬ (1 : Int32) = 0 := by decide
  have e320 : f_X12_isOwnHere_320 1 h = some (nI 1, h) := by
    unfold f_X12_isOwnHere_320
    rw [show (1 : Int32) = nI 1 from rfl, z1_G]
  have e294 : f_X12_isOwnHere_294 (x + 107) h = some (nI 1, h) := by
    unfold f_X12_isOwnHere_294 f_X12_isOwnHere_299
    rw [if_neg o1]
    exact e320
  have e218 : f_X12_isOwnHere_218 (x + 107) h = some (nI 1, h) := by
    unfold f_X12_isOwnHere_218 f_X12_isOwnHere_223
    rw [if_neg o1]
    exact e294
  have e142 : f_X12_isOwnHere_142 (x + 107) h = some (nI 1, h) := by
    unfold f_X12_isOwnHere_142 f_X12_isOwnHere_147
    rw [if_neg o1]
    exact e218
  have e66 : f_X12_isOwnHere_66 (x + 107) h = some (nI 1, h) := by
    unfold f_X12_isOwnHere_66 f_X12_isOwnHere_71
    rw [if_neg o1]
    exact e142
  unfold f_X12_isOwnHere
  rw [ko_t S.k, kr_t (r 0 (by omega)), bd_t (hM 0 (by omega))]
  by_cases z0 : isW tp n σ 0 = true
  · rw [if_neg (b2i_nt z0), f1 24 0 z0]
    exact e66
  rw [if_pos (b2i_nf z0), f2 24 0 z0, ko_t S.k, kr_t (r 1 (by omega)), bd_t (hM 1 (by omega))]
  by_cases z1 : isW tp n σ 1 = true
  · rw [if_neg (b2i_nt z1), f1 23 1 z1]
    exact e66
  rw [if_pos (b2i_nf z1), f2 23 1 z1, ko_t S.k, kr_t (r 2 (by omega)), bd_t (hM 2 (by omega))]
  by_cases z2 : isW tp n σ 2 = true
  · rw [if_neg (b2i_nt z2), f1 22 2 z2]
    exact e66
  rw [if_pos (b2i_nf z2), f2 22 2 z2, ko_t S.k, kr_t (r 3 (by omega)), bd_t (hM 3 (by omega))]
  by_cases z3 : isW tp n σ 3 = true
  · rw [if_neg (b2i_nt z3), f1 21 3 z3]
    exact e66
  rw [if_pos (b2i_nf z3), f2 21 3 z3, ko_t S.k, kr_t (r 4 (by omega)), bd_t (hM 4 (by omega))]
  by_cases z4 : isW tp n σ 4 = true
  · rw [if_neg (b2i_nt z4), f1 20 4 z4]
    exact e66
  rw [if_pos (b2i_nf z4), f2 20 4 z4, ko_t S.k, kr_t (r 5 (by omega)), bd_t (hM 5 (by omega))]
  by_cases z5 : isW tp n σ 5 = true
  · rw [if_neg (b2i_nt z5), f1 19 5 z5]
    exact e66
  rw [if_pos (b2i_nf z5), f2 19 5 z5]
  unfold f_X12_isOwnHere_71
  rw [if_pos rfl, ko_t S.k, kr_t (r 6 (by omega)), bd_t (hM 6 (by omega))]
  by_cases z6 : isW tp n σ 6 = true
  · rw [if_neg (b2i_nt z6), f1 18 6 z6]
    exact e142
  rw [if_pos (b2i_nf z6), f2 18 6 z6, ko_t S.k, kr_t (r 7 (by omega)), bd_t (hM 7 (by omega))]
  by_cases z7 : isW tp n σ 7 = true
  · rw [if_neg (b2i_nt z7), f1 17 7 z7]
    exact e142
  rw [if_pos (b2i_nf z7), f2 17 7 z7, ko_t S.k, kr_t (r 8 (by omega)), bd_t (hM 8 (by omega))]
  by_cases z8 : isW tp n σ 8 = true
  · rw [if_neg (b2i_nt z8), f1 16 8 z8]
    exact e142
  rw [if_pos (b2i_nf z8), f2 16 8 z8, ko_t S.k, kr_t (r 9 (by omega)), bd_t (hM 9 (by omega))]
  by_cases z9 : isW tp n σ 9 = true
  · rw [if_neg (b2i_nt z9), f1 15 9 z9]
    exact e142
  rw [if_pos (b2i_nf z9), f2 15 9 z9, ko_t S.k, kr_t (r 10 (by omega)), bd_t (hM 10 (by omega))]
  by_cases z10 : isW tp n σ 10 = true
  · rw [if_neg (b2i_nt z10), f1 14 10 z10]
    exact e142
  rw [if_pos (b2i_nf z10), f2 14 10 z10, ko_t S.k, kr_t (r 11 (by omega)), bd_t (hM 11 (by omega))]
  by_cases z11 : isW tp n σ 11 = true
  · rw [if_neg (b2i_nt z11), f1 13 11 z11]
    exact e142
  rw [if_pos (b2i_nf z11), f2 13 11 z11]
  unfold f_X12_isOwnHere_147
  rw [if_pos rfl, ko_t S.k, kr_t (r 12 (by omega)), bd_t (hM 12 (by omega))]
  by_cases z12 : isW tp n σ 12 = true
  · rw [if_neg (b2i_nt z12), f1 12 12 z12]
    exact e218
  rw [if_pos (b2i_nf z12), f2 12 12 z12, ko_t S.k, kr_t (r 13 (by omega)), bd_t (hM 13 (by omega))]
  by_cases z13 : isW tp n σ 13 = true
  · rw [if_neg (b2i_nt z13), f1 11 13 z13]
    exact e218
  rw [if_pos (b2i_nf z13), f2 11 13 z13, ko_t S.k, kr_t (r 14 (by omega)), bd_t (hM 14 (by omega))]
  by_cases z14 : isW tp n σ 14 = true
  · rw [if_neg (b2i_nt z14), f1 10 14 z14]
    exact e218
  rw [if_pos (b2i_nf z14), f2 10 14 z14, ko_t S.k, kr_t (r 15 (by omega)), bd_t (hM 15 (by omega))]
  by_cases z15 : isW tp n σ 15 = true
  · rw [if_neg (b2i_nt z15), f1 9 15 z15]
    exact e218
  rw [if_pos (b2i_nf z15), f2 9 15 z15, ko_t S.k, kr_t (r 16 (by omega)), bd_t (hM 16 (by omega))]
  by_cases z16 : isW tp n σ 16 = true
  · rw [if_neg (b2i_nt z16), f1 8 16 z16]
    exact e218
  rw [if_pos (b2i_nf z16), f2 8 16 z16, ko_t S.k, kr_t (r 17 (by omega)), bd_t (hM 17 (by omega))]
  by_cases z17 : isW tp n σ 17 = true
  · rw [if_neg (b2i_nt z17), f1 7 17 z17]
    exact e218
  rw [if_pos (b2i_nf z17), f2 7 17 z17]
  unfold f_X12_isOwnHere_223
  rw [if_pos rfl, ko_t S.k, kr_t (r 18 (by omega)), bd_t (hM 18 (by omega))]
  by_cases z18 : isW tp n σ 18 = true
  · rw [if_neg (b2i_nt z18), f1 6 18 z18]
    exact e294
  rw [if_pos (b2i_nf z18), f2 6 18 z18, ko_t S.k, kr_t (r 19 (by omega)), bd_t (hM 19 (by omega))]
  by_cases z19 : isW tp n σ 19 = true
  · rw [if_neg (b2i_nt z19), f1 5 19 z19]
    exact e294
  rw [if_pos (b2i_nf z19), f2 5 19 z19, ko_t S.k, kr_t (r 20 (by omega)), bd_t (hM 20 (by omega))]
  by_cases z20 : isW tp n σ 20 = true
  · rw [if_neg (b2i_nt z20), f1 4 20 z20]
    exact e294
  rw [if_pos (b2i_nf z20), f2 4 20 z20, ko_t S.k, kr_t (r 21 (by omega)), bd_t (hM 21 (by omega))]
  by_cases z21 : isW tp n σ 21 = true
  · rw [if_neg (b2i_nt z21), f1 3 21 z21]
    exact e294
  rw [if_pos (b2i_nf z21), f2 3 21 z21, ko_t S.k, kr_t (r 22 (by omega)), bd_t (hM 22 (by omega))]
  by_cases z22 : isW tp n σ 22 = true
  · rw [if_neg (b2i_nt z22), f1 2 22 z22]
    exact e294
  rw [if_pos (b2i_nf z22), f2 2 22 z22, ko_t S.k, kr_t (r 23 (by omega)), bd_t (hM 23 (by omega))]
  by_cases z23 : isW tp n σ 23 = true
  · rw [if_neg (b2i_nt z23), f1 1 23 z23]
    exact e294
  rw [if_pos (b2i_nf z23), f2 1 23 z23]
  unfold f_X12_isOwnHere_299
  rw [if_pos rfl, ko_t S.k, kr_t (r 24 (by omega)), bd_t (hM 24 (by omega))]
  by_cases z24 : isW tp n σ 24 = true
  · rw [if_neg (b2i_nt z24), f1 0 24 z24]
    exact e320
  · rw [if_pos (b2i_nf z24), f2 0 24 z24]
    unfold f_X12_isOwnHere_320
    rw [show (0 : Int32) = nI 0 from rfl, z0_G]
    rfl
end Bn
