/-! THE TEXTS: the class reads a question -/
section Ao
variable {h : aH} {x a n : Nat} {tp : Nat → Nat} {σ : tyT}
theorem ac_pre {h0 : aH} {r : Option ((Nat × Nat) ⊕ (Nat × List Nat))} {s s' : Option (Int32 × aH)} (k : AcR x a r h s) (e : s' = s) (f : FX x (PQ x a) h0 h) (er : hR h = hR h0) (el : hL h = hL h0) : AcR x a r h0 s' := by
  subst e
  match r, k with
  | none, _ => trivial
  | some (.inl e), ⟨h1, a1, a2, a3, a4, a5, a6⟩ => exact ⟨h1, a1, a2, a3, f.trans a4, a5.trans er, a6.trans el⟩
  | some (.inr e), ⟨h1, a1, a2, a3, a4, a5, a6, a7, a8, a9, b1⟩ => exact ⟨h1, a1, a2, a3, a4, a5, a6, a7, f.trans a8, a9.trans er, b1.trans el⟩
theorem c_q29 (T : TS h x tp n σ) (o : okS tp n σ) (i3 : hR h (x + 104) 3 = some a) (ha : a = x + 92 ∨ a = x + 98) (C0 : CD h a 0 []) (tb : ∀ j, tp j ≤ 255) (hn : n ≤ 1600) (f4 : hI h (a + 4) 0 = nI 0) (f5 : hI h (a + 5) 0 = nI 0) (b0 : hI h (x + 104) 0 = nI 0) (b1 : hI h (x + 104) 1 = -nI 1) : AcR x a (pAsk tp n σ) h (f_X5_readQuestion_29 (x + 104) (if hI h (x + 105) 2 = 1 then hI h (x + 105) 5 else -1) h) := by
  have S := T.1.1
  rcases kd_cls T with ⟨k, k6, qk, iw, k2, v5⟩ | ⟨qk, no⟩
  · rw [k2, if_pos (show nI 1 = (1 : Int32) from rfl), v5]
    obtain ⟨h1, e1, S1, g4, fx, r1, l1⟩ := c_begins (w := 0) (w' := 3) (u := 0) (c := []) T o i3 ha C0 (by simp) tb hn iw (by omega) f4 f5 b0 b1
    have e523 : nI (mk 3) = (523272 : Int32) := rfl
    rw [e523] at e1
    have g4 : hI h1 (a + 4) 0 = nI 0 := g4
    have X1 := S1.1.1.1
    have f1 : FX x (PQ x a) h h1 := fx.mono (fun b j z => by unfold PB at z; unfold PQ; omega)
    unfold pAsk
    rw [qk]
    dsimp only
    have go : ∀ t, (t = 0 ∨ t = 3) → AcR x a (match pD tp n 3 100 t 0 (nW tp n σ) with
        | none => none
        | some (.inl e) => some (.inl e)
        | some (.inr q) => if q.2.1 < n then some (.inl (1, q.2.1)) else some (.inr (k, q.1))) h1 (bd (f_P 100 t (x + 104) 0 h1) fun v22 h23 => if v22 = 0 then f_X5_readQuestion_101 (x + 104) (nI (25 + k)) h23 else f_X5_readQuestion_89 (x + 104) (nI (25 + k)) h23) := by
      intro t ht
      have p := (c_P (x := x) (a := a) (u := 0) tb hn (show 3 < 4 by omega) 100 t 0 (nW tp n σ) h1 [] (by omega) (by omega) (by omega) (by rcases ht with rfl | rfl <;> decide) S1).1
      revert p
      cases pD tp n 3 100 t 0 (nW tp n σ) with
      | none => intro _; exact trivial
      | some r =>
        cases r with
        | inl e =>
          rintro ⟨h2, e2, c0, c1, px⟩
          have f2 : FX x (PQ x a) h1 h2 := px.1.mono (fun b j z => by unfold PZ at z; unfold PQ; omega)
          refine ⟨h2, ?_, c0, c1, f2, px.2.1, px.2.2⟩
          rw [bd_t (show f_P 100 t (x + 104) 0 h1 = _ from e2), if_pos (show nI 0 = (0 : Int32) from rfl)]
          rfl
        | inr q =>
          rintro ⟨h2, e2, S2, px⟩
          have f2 : FX x (PQ x a) h1 h2 := px.1.mono (fun b j z => by unfold PZ at z; unfold PQ; omega)
          have g42 : hI h2 (a + 4) 0 = nI 0 := by rw [px.1.2.2.2.2.1 _ _ (by unfold PZ; omega)]; exact g4
          have q8 := c_q89 (k := k) S2 hn g42
          rw [List.nil_append] at q8
          refine ac_pre q8 ?_ f2 px.2.1 px.2.2
          rw [bd_t (show f_P 100 t (x + 104) 0 h1 = _ from e2), if_neg (show ¬ nI 1 = (0 : Int32) by decide)]
    have st : f_X5_readQuestion_29 (x + 104) (nI (25 + k)) h = bd (f_P 100 (if k < 3 then 0 else 3) (x + 104) 0 h1) fun v22 h23 => if v22 = 0 then f_X5_readQuestion_101 (x + 104) (nI (25 + k)) h23 else f_X5_readQuestion_89 (x + 104) (nI (25 + k)) h23 := by
      unfold f_X5_readQuestion_29
      rw [if_pos (show (25 : Int32) ≤ nI (25 + k) by show nI 25 ≤ nI (25 + k); rw [nI_leI (by omega) (by omega)]; omega), ko_t S.k104, bd_t (show f_X5_begins (x + 104) 0 523272 h = _ from e1), if_neg (show ¬ nI 1 = (0 : Int32) by decide)]
      by_cases z : k < 3
      · rw [if_neg (show ¬ (27 : Int32) < nI (25 + k) from nI_nlt (a := 27) (b := 25 + k) (by omega) (by omega)), ko_t X1.k104, if_pos z]
      · rw [if_pos (show (27 : Int32) < nI (25 + k) by show nI 27 < nI (25 + k); rw [nI_ltI (by omega) (by omega)]; omega), ko_t X1.k104, if_neg z]
    refine ac_pre (go (if k < 3 then 0 else 3) ?_) st f1 r1 l1
    by_cases z : k < 3
    · rw [if_pos z]; exact .inl rfl
    · rw [if_neg z]; exact .inr rfl
  · unfold pAsk
    rw [qk]
    have s0 : ¬ (25 : Int32) ≤ (if hI h (x + 105) 2 = 1 then hI h (x + 105) 5 else -1) := by
      by_cases z : hI h (x + 105) 2 = 1
      · rw [if_pos z]
        exact fun y => no ⟨z, y⟩
      · rw [if_neg z]; decide
    have r2 : hR h (x + 104) 2 = some (x + 105) := S.r104_2
    refine ⟨sI (sI h (x + 104) 0 (nI 1)) (x + 104) 1 (nI σ.1), ?_, by rw [hI_sI, if_neg (by omega), hI_sI, if_pos ⟨rfl, rfl⟩], by rw [hI_sI, if_pos ⟨rfl, rfl⟩], FX.trans (FX.sI (by unfold PQ; omega)) (FX.sI (by unfold PQ; omega)), rfl, rfl⟩
    unfold f_X5_readQuestion_29
    rw [if_neg s0, ko_t S.k104, kr_t r2, ko_t S.k105, T.2.2.1, bd_t (show f_X5_fail (x + 104) 1 (nI σ.1) h = _ from c_failX S (k := 1) (p := σ.1))]
    rfl
end Ao
