theorem ivS_o {M b l k j : Nat} {N : tyN} (h : ¬ j = 8 * k) : ivS M b l k N j = N j := by
  unfold ivS
  split
  · exact updN_o h
  · rfl
theorem ivS_p {M b l k : Nat} {N : tyN} (q : ∀ k, k < 32 → okP M N (8 * k)) : ∀ i, i < 32 → okP M (ivS M b l k N) (8 * i) := by
  intro i hi
  have o := q i hi
  unfold okP at o ⊢
  rw [ivS_o (j := 8 * i + 1) (by omega), ivS_o (j := 8 * i + 2) (by omega), ivS_o (j := 8 * i + 3) (by omega), ivS_o (j := 8 * i + 4) (by omega), ivS_o (j := 8 * i + 5) (by omega), ivS_o (j := 8 * i + 6) (by omega)]
  refine ⟨?_, o.2⟩
  unfold ivS
  split
  · unfold updN
    split
    · omega
    · exact o.1
  · exact o.1
section Iv4
variable {h : aH} {x r tl : Nat} {tp : Nat → Nat} {rf : Nat → Int32} {ft fp : Int32} {sd : Nat} {M mem sh : Nat} {ns : Nat → List Nat} {kd : Nat → Nat} {cd : Nat → List Nat} {N : tyN} {sl : Nat → tyN} {nx c cr : Nat} {rn : Nat} {rw_ : Nat → Nat} {on_ : Nat} {ob : Nat → Nat}
theorem c_ivs (h4 : 4 ≤ M) (h8 : M ≤ 8) {b l : Nat} (hb : b + l ≤ 1024) : ∀ (j k n : Nat) (N' : tyN) (hh : aH), k + j = 32 → (∀ k, k < 32 → okP M N' (8 * k)) → CX hh x (r, tl, tp, rf, ft, fp, sd) (M, mem, sh, ns, kd, cd) N' (sl, nx, c, cr) (rn, rw_) (on_, ob) → ∃ h1, f_X9_removeObject_129 (n + 1 + j) (x + 3) (nI M) (nI b) (nI l) (nI k) hh = f_X9_removeObject_129 (n + 1) (x + 3) (nI M) (nI b) (nI l) (nI 32) h1 ∧ CX h1 x (r, tl, tp, rf, ft, fp, sd) (M, mem, sh, ns, kd, cd) (ivF M b l j k N') (sl, nx, c, cr) (rn, rw_) (on_, ob) ∧ FC x hh h1 ∧ hR h1 = hR hh := by
  intro j
  induction j with
  | zero =>
    intro k n N' hh hk ok C
    have hk : k = 32 := by omega
    subst hk
    exact ⟨hh, rfl, C, FC.refl x hh, rfl⟩
  | succ j ih =>
    intro k n N' hh hk ok C
    obtain ⟨h1, e1, C1, F1, G1⟩ := CX.iv (N := N') C ok h4 h8 (n := n + 1 + j) (k := k) hb (by omega)
    obtain ⟨h2, e2, C2, F2, G2⟩ := ih (k + 1) n _ h1 (by omega) (ivS_p ok) C1
    exact ⟨h2, e1.trans e2, C2, F1.trans F2, G2.trans G1⟩
theorem m_ivs (h4 : 4 ≤ M) (h8 : M ≤ 8) {b l i : Nat} (hb : b + l ≤ 1024) (l1 : 1 ≤ l) : ∀ (j k n : Nat) (N' : tyN) (hh : aH), k + j = 32 → (∀ k, k < 32 → okP M N' (8 * k)) → CM hh (x + 107) (r, tl, tp, rf, ft, fp, sd) (M, mem, sh, ns, kd, cd) N' (sl, nx, c, cr) (rn, rw_) (on_, ob) → ∃ h1, f_X12_frees_46 (n + 1 + j) (x + 107) (nI i) (nI b) (nI l) (nI (8 * k)) hh = f_X12_frees_46 (n + 1) (x + 107) (nI i) (nI b) (nI l) (nI (8 * 32)) h1 ∧ CM h1 (x + 107) (r, tl, tp, rf, ft, fp, sd) (M, mem, sh, ns, kd, cd) (ivF M b l j k N') (sl, nx, c, cr) (rn, rw_) (on_, ob) ∧ FM x hh h1 := by
  intro j
  induction j with
  | zero =>
    intro k n N' hh hk ok Q
    have hk : k = 32 := by omega
    subst hk
    exact ⟨hh, rfl, Q, FM.refl x hh⟩
  | succ j ih =>
    intro k n N' hh hk ok Q
    obtain ⟨h1, e1, Q1, F1⟩ := CM.iv (N := N') Q ok h4 h8 (n := n + 1 + j) (i := i) (k := k) hb l1 (by omega)
    obtain ⟨h2, e2, Q2, F2⟩ := ih (k + 1) n _ h1 (by omega) (ivS_p ok) Q1
    exact ⟨h2, e1.trans e2, Q2, F1.trans F2⟩
end Iv4
