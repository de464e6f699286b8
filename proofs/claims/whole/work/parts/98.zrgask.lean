/-! QUESTIONS: the whole of ask -/
theorem fnd_s {p : Nat → Bool} : ∀ (k j g : Nat), fnd p k j = some g → j ≤ g ∧ g < j + k ∧ p g = true := by
  intro k
  induction k with
  | zero => intro j g e; unfold fnd at e; cases e
  | succ k ih =>
    intro j g e
    by_cases z : p j = true
    · rw [fnd_1 z] at e
      cases e
      exact ⟨Nat.le_refl _, by omega, z⟩
    · rw [fnd_2 z] at e
      obtain ⟨a, b, c⟩ := ih (j + 1) g e
      exact ⟨by omega, by omega, c⟩
theorem tyR1.nil {w d : Nat} {c : List Nat} {t : Bool} (k : tyR1 w c d t) (hd : d ≤ 60) : tyC (alC w) c [] = some [t] := by
  have := k.2 [] (by simpa using hd) []
  rw [List.append_nil] at this
  rw [this, tyC.eq_def]
theorem pAsk_good {tp : Nat → Nat} {n : Nat} {σ : tyT} : match pAsk tp n σ with
    | none => False
    | some (.inl _) => True
    | some (.inr q) => q.1 < 6 ∧ tyC (alC 3) q.2 [] = some [decide (q.1 < 3)] := by
  unfold pAsk
  cases e : qKd tp n σ with
  | none => exact trivial
  | some k =>
    obtain ⟨-, k6, iw⟩ := fnd_s _ _ _ e
    have ok1 := (nW_ok iw).1
    have g : gdR tp n 3 (nW tp n σ) (dpt (if k < 3 then 0 else 3) 0) (decide ((if k < 3 then 0 else 3) ≤ 2)) (pD tp n 3 100 (if k < 3 then 0 else 3) 0 (nW tp n σ)) := by
      by_cases c : k < 3
      · rw [if_pos c]
        exact pD_good 100 0 0 _ (by omega) (by omega) ok1 (fun z => by omega) (by decide)
      · rw [if_neg c]
        exact pD_good 100 3 0 _ (by omega) (by omega) ok1 (fun z => by omega) (by decide)
    show match (match pD tp n 3 100 (if k < 3 then 0 else 3) 0 (nW tp n σ) with
      | none => none
      | some (.inl e) => some (.inl e)
      | some (.inr q) => if q.2.1 < n then some (.inl (1, q.2.1)) else some (.inr (k, q.1)) : Option ((Nat × Nat) ⊕ (Nat × List Nat))) with
      | none => False
      | some (.inl _) => True
      | some (.inr q) => q.1 < 6 ∧ tyC (alC 3) q.2 [] = some [decide (q.1 < 3)]
    revert g
    cases pD tp n 3 100 (if k < 3 then 0 else 3) 0 (nW tp n σ) with
    | none => intro g; exact g
    | some r =>
      cases r with
      | inl e => intro _; exact trivial
      | inr q =>
        intro g
        obtain ⟨g1, g2, g3, g4⟩ := g
        have g5 := g4.nil (by by_cases c : k < 3; rw [if_pos c]; decide; rw [if_neg c]; decide)
        have g6 : decide ((if k < 3 then 0 else 3) ≤ 2) = decide (k < 3) := by
          by_cases c : k < 3
          · rw [if_pos c]; simp [c]
          · rw [if_neg c]; simp [c]
        rw [g6] at g5
        by_cases c : q.2.1 < n
        · simp only [if_pos c]
        · simp only [if_neg c]
          exact ⟨by omega, g5⟩
section Gk
variable {h h1 : aH} {x m a a' : Nat} {A A' : tyA} {B : tyB} {N : tyN} {D : tyD} {E F : tyE}
theorem CX.upS (C : CX h x A B N D E F) (w : wB h x a a') (kb : A.1 = 1 → mB h a B.1 B.2.1 B.2.2.1 B.2.2.2.1 B.2.2.2.2.1 B.2.2.2.2.2) (e1 : hK h1 = hK h) (e2 : ∀ b j, ¬ (b = x + 83 ∧ 3 ≤ j ∨ b = x + 104 ∧ ¬ j = 2 ∨ b = x + 105) → hR h1 b j = hR h b j) (e3 : hN h1 = hN h) (e4 : hS h1 = hS h) (e : ∀ b j, ¬ (b = x ∧ (j = 13 ∨ j = 14 ∨ j = 15) ∨ x + 83 ≤ b ∧ b < x + 86 ∨ a' ≤ b ∧ b < a' + 6 ∨ b = x + 104 ∨ b = x + 105) → hI h1 b j = hI h b j) (er : A'.1 = A.1) (ca : cA h1 x A'.1 A'.2.1 A'.2.2.1 A'.2.2.2.1 A'.2.2.2.2.1 A'.2.2.2.2.2.1 A'.2.2.2.2.2.2) : CX h1 x A' B N D E F := by
  obtain ⟨c1, c2, c3, c4, c5, c6, c7, c8, c9⟩ := C
  have w1 := w.1
  refine ⟨c1.fr (fun b _ => by rw [e1]) (fun b j _ z => e2 b j (by omega)), ca, ⟨a, a', ⟨w1, ?_, ?_⟩, fun hr => (kb (by rw [← er]; exact hr)).fr (fun b b1 b2 j => e b j (by omega))⟩, c4.fr (fun b _ _ j => e b j (by omega)), c5.fr (fun b _ _ j => e b j (by omega)) (fun b _ _ => by rw [e1]) (fun b _ _ j => e2 b j (by omega)), c6.fr (e _ _ (by omega)) (fun b _ _ j => e b j (by omega)), c7.fr (fun b _ _ j => e b j (by omega)), by rw [e3]; exact c8, by rw [e4]; exact c9⟩
  · rw [e2 _ _ (by omega)]; exact w.2.1
  · rw [e2 _ _ (by omega)]; exact w.2.2
theorem CM.upS (C : CM h m A B N D E F) (e1 : hK h1 = hK h) (e2 : hR h1 = hR h) (e : ∀ b j, LM m b j → ¬ (b = m ∧ (j = 1 ∨ j = 7 ∨ j = 8)) → hI h1 b j = hI h b j) (e4 : ∀ j, 4 ≤ j → hL h1 (m + 29) j = hL h (m + 29) j) (a : mA h1 m A'.1 A'.2.1 A'.2.2.1 A'.2.2.2.1 A'.2.2.2.2.1 A'.2.2.2.2.2.1 A'.2.2.2.2.2.2) : CM h1 m A' B N D E F := by
  obtain ⟨c1, c2, c3, c4, c5, c6, c7, c8⟩ := C
  unfold LM at e
  exact ⟨c1.of e1 e2, a, c3.fr (fun b j q => e b j (by omega) (by omega)) e4, fun j hj => (e _ j (by omega) (by omega)).trans (c4 j hj), c5.fr (fun b j q => e b j (by omega) (by omega)), c6.fr (fun b j q => e b j (by omega) (by omega)), c7.fr (fun b j q => e b j (by omega) (by omega)), c8.fr (fun b j q => e b j (by omega) (by omega))⟩
end Gk
