/-! THE TEXTS: the reference's products and sums are the descent's -/
section Rk
variable {x : Nat} {tp : Nat → Nat} {n w : Nat} {G : Nat → Nat → tyT → tyR}
theorem isS_out {σ : tyT} (hn : n ≤ σ.1) (q : Nat) : isS tp n σ q = false := by
  unfold isS
  rw [decide_eq_false (by omega)]
  rfl
theorem a3_nb {P : List Nat} (hP : P = [] ∨ P = [3] ∨ P = [4]) : (∀ u ∈ P, u = 3 ∨ u = 4) := by
  intro u hu
  rcases hP with rfl | rfl | rfl
  · cases hu
  · left; simpa using hu
  · right; simpa using hu
theorem a1_nb {P : List Nat} (hP : P = [] ∨ P = [1] ∨ P = [2]) : (∀ u ∈ P, u = 1 ∨ u = 2) := by
  intro u hu
  rcases hP with rfl | rfl | rfl
  · cases hu
  · left; simpa using hu
  · right; simpa using hu
theorem hd_P {P0 W0 : List Nat} (hP : P0 = [] ∨ P0 = [1] ∨ P0 = [2]) (hW : ∀ u, W0.head? = some u → 5 ≤ u) : ∀ u, (P0 ++ W0).head? = some u → ¬ u = 3 ∧ ¬ u = 4 := by
  intro u hu
  rcases hP with rfl | rfl | rfl
  · have := hW u hu; omega
  · cases hu; omega
  · cases hu; omega
/-- one more factor -/
theorem s_fac (tb : ∀ j, tp j ≤ 255) (hn : n ≤ 1600) (I5 : Prt x tp n w (fun _ => True) (G 5)) {h : aH} {c cc P P0 W0 : List Nat} {o bs a b s q : Nat} {v : Int32} {σ : tyT} (T : RQ h x tp n w σ (c ++ cc) (P ++ (P0 ++ W0)) o bs) (hP : P = [] ∨ P = [3] ∨ P = [4]) (hP0 : P0 = [] ∨ P0 = [1] ∨ P0 = [2]) (hW : stopB bs W0) (hd : ∀ u, W0.head? = some u → 5 ≤ u) (fa : 1602 ≤ a + σ.1) (fb : 1602 ≤ b + σ.1) (hs : s = 42 ∧ q = 3 ∨ s = 47 ∧ q = 4) (z : isS tp n σ s = true) : match G 5 o (nS tp n σ) with
  | none => True
  | some (.inl e) => FLQ x h (PA a b x v h) e.1 e.2
  | some (.inr r) => ∃ h1 a' b', PA a b x v h = PA a' b' x v h1 ∧ 1602 ≤ a' + r.2.1 ∧ 1602 ≤ b' + r.2.1 ∧ σ.1 < r.2.1 ∧ RQ h1 x tp n w r.2 (c ++ (cc ++ P ++ r.1)) ([q] ++ (P0 ++ W0)) o bs ∧ QX x h h1 := by
  have sn := T.1.2.1.1
  have lb0 : bs ≤ W0.length := by rcases hW with y | ⟨y, -⟩ <;> omega
  have lb : bs ≤ (P0 ++ W0).length := by rw [List.length_append]; omega
  have nbr : ∀ u ∈ P ++ P0, isBr u = false := by
    intro u hu
    rcases List.mem_append.mp hu with y | y
    · rcases a3_nb hP u y with rfl | rfl <;> rfl
    · rcases a1_nb hP0 u y with rfl | rfl <;> rfl
  obtain ⟨h1, e1, T1, q1⟩ := a_mul (k1 := a) (k2 := b) (v := v) T tb hn rfl (a3_nb hP) (hd_P hP0 hd) lb (P' := P ++ P0) (R' := W0) (by rw [List.append_assoc]) nbr hW hs z (by omega) (by omega)
  have ns := (nS_ok z).2
  have i := I5 h1 (c ++ cc ++ P) [] (q :: (P0 ++ W0)) o bs FU (b - 1) v (nS tp n σ) trivial T1 (fun u hu => by cases hu) (.inr ⟨by rw [List.length_cons]; omega, q, P0 ++ W0, rfl, by omega⟩) (Nat.zero_le _) (by unfold FU; omega) (by omega)
  revert i
  cases G 5 o (nS tp n σ) with
  | none => intro _; exact trivial
  | some r =>
    cases r with
    | inl e => intro i; exact FLQ.of i e1 q1
    | inr r =>
      rintro ⟨h2, a', b', e2, fa', fb', pg, T2, q2⟩
      refine ⟨h2, a', b', e1.trans e2, fa', fb', by omega, ?_, q1.trans q2⟩
      rw [show c ++ cc ++ P ++ r.1 ++ [] = c ++ (cc ++ P ++ r.1) by simp, show o - ([] : List Nat).length = o from rfl] at T2
      exact T2
theorem s_ml (tb : ∀ j, tp j ≤ 255) (hn : n ≤ 1600) (I5 : Prt x tp n w (fun _ => True) (G 5)) : ∀ (k s0 : Nat) (h : aH) (c cc P P0 W0 : List Nat) (o bs a b : Nat) (v : Int32) (σ : tyT), s0 < σ.1 → RQ h x tp n w σ (c ++ cc) (P ++ (P0 ++ W0)) o bs → (P = [] ∨ P = [3] ∨ P = [4]) → (P0 = [] ∨ P0 = [1] ∨ P0 = [2]) → stopB bs W0 → (∀ u, W0.head? = some u → 5 ≤ u) → 1602 ≤ a + σ.1 → 1602 ≤ b + σ.1 → 1600 ≤ k + σ.1 → PrdR x tp n w s0 (pML tp n G o k (cc ++ P) σ) h c (P0 ++ W0) o bs (PA a b x v h) v := by
  intro k
  induction k with
  | zero =>
    intro s0 h c cc P P0 W0 o bs a b v σ s1 T hP hP0 hW hd fa fb hk
    exact ⟨h, a, b, cc, P, rfl, fa, fb, s1, T, rfl, hP, isS_out (by show n ≤ σ.1; omega) _, isS_out (by show n ≤ σ.1; omega) _, QX.refl⟩
  | succ k ih =>
    intro s0 h c cc P P0 W0 o bs a b v σ s1 T hP hP0 hW hd fa fb hk
    have st : ∀ s q, (s = 42 ∧ q = 3 ∨ s = 47 ∧ q = 4) → isS tp n σ s = true → PrdR x tp n w s0 (bR (G 5 o (nS tp n σ)) fun c2 σ2 => pML tp n G o k (cc ++ P ++ c2 ++ [q]) σ2) h c (P0 ++ W0) o bs (PA a b x v h) v := by
      intro s q hs z
      have f := s_fac (v := v) tb hn I5 T hP hP0 hW hd fa fb hs z
      have ns := (nS_ok z).2
      revert f
      cases G 5 o (nS tp n σ) with
      | none => intro _; exact trivial
      | some r =>
        cases r with
        | inl e => intro f; exact f
        | inr r =>
          rintro ⟨h1, a', b', e1, fa', fb', lt, T1, q1⟩
          have i := ih s0 h1 c (cc ++ P ++ r.1) [q] P0 W0 o bs a' b' v r.2 (by omega) T1 (by rcases hs with ⟨-, rfl⟩ | ⟨-, rfl⟩ <;> simp) hP0 hW hd fa' fb' (by omega)
          show PrdR x tp n w s0 (pML tp n G o k (cc ++ P ++ r.1 ++ [q]) r.2) h c (P0 ++ W0) o bs (PA a b x v h) v
          revert i
          cases pML tp n G o k (cc ++ P ++ r.1 ++ [q]) r.2 with
          | none => intro _; exact trivial
          | some t =>
            cases t with
            | inl e => intro i; exact FLQ.of i e1 q1
            | inr t =>
              rintro ⟨h2, a2, b2, cc2, P2, e2, g1, g2, g0, T2, g3, g4, g5, g6, q2⟩
              exact ⟨h2, a2, b2, cc2, P2, e1.trans e2, g1, g2, g0, T2, g3, g4, g5, g6, q1.trans q2⟩
    unfold pML
    by_cases z1 : isS tp n σ 42 = true
    · rw [if_pos z1]
      exact st 42 3 (.inl ⟨rfl, rfl⟩) z1
    · rw [if_neg z1]
      by_cases z2 : isS tp n σ 47 = true
      · rw [if_pos z2]
        exact st 47 4 (.inr ⟨rfl, rfl⟩) z2
      · rw [if_neg z2]
        exact ⟨h, a, b, cc, P, rfl, fa, fb, s1, T, rfl, hP, isS_f z1, isS_f z2, QX.refl⟩
theorem s_prod (tb : ∀ j, tp j ≤ 255) (hn : n ≤ 1600) (I5 : Prt x tp n w (fun _ => True) (G 5)) : Prd x tp n w (pProd tp n G) := by
  intro h c P0 W0 o bs k1 k2 v σ T hP0 hW hd f1 f2
  have lb0 : bs ≤ W0.length := by rcases hW with y | ⟨y, -⟩ <;> omega
  have hR : (P0 ++ W0).length = bs ∨ bs < (P0 ++ W0).length ∧ ∃ u R', P0 ++ W0 = u :: R' ∧ u < 60 := by
    rcases hP0 with rfl | rfl | rfl
    · rcases hW with y | ⟨y, b, R', rfl, hb⟩
      · exact .inl y
      · right
        refine ⟨y, b, R', rfl, ?_⟩
        unfold isBr at hb
        simp at hb
        omega
    · exact .inr ⟨by show bs < W0.length + 1; omega, 1, W0, rfl, by omega⟩
    · exact .inr ⟨by show bs < W0.length + 1; omega, 2, W0, rfl, by omega⟩
  have i := I5 h c [] (P0 ++ W0) o bs k1 k2 v σ trivial T (fun u hu => by cases hu) hR (Nat.zero_le _) f1 f2
  unfold pProd
  revert i
  cases G 5 o σ with
  | none => intro _; exact trivial
  | some r =>
    cases r with
    | inl e => intro i; exact i
    | inr r =>
      rintro ⟨h1, a, b, e1, fa, fb, pg, T1, q1⟩
      rw [show c ++ r.1 ++ [] = c ++ r.1 by simp, show o - ([] : List Nat).length = o from rfl] at T1
      have i := s_ml tb hn I5 1600 σ.1 h1 c r.1 [] P0 W0 o bs a b v r.2 pg T1 (.inl rfl) hP0 hW hd fa fb (by omega)
      rw [List.append_nil] at i
      show PrdR x tp n w σ.1 (pML tp n G o 1600 r.1 r.2) h c (P0 ++ W0) o bs (PE k1 k2 x v h) v
      revert i
      cases pML tp n G o 1600 r.1 r.2 with
      | none => intro _; exact trivial
      | some t =>
        cases t with
        | inl e => intro i; exact FLQ.of i e1 q1
        | inr t =>
          rintro ⟨h2, a2, b2, cc2, P2, e2, g1, g2, g0, T2, g3, g4, g5, g6, q2⟩
          exact ⟨h2, a2, b2, cc2, P2, e1.trans e2, g1, g2, g0, T2, g3, g4, g5, g6, q1.trans q2⟩
theorem s_sl (tb : ∀ j, tp j ≤ 255) (hn : n ≤ 1600) (I4 : Prd x tp n w (G 4)) : ∀ (k s0 : Nat) (h : aH) (c cc P W : List Nat) (o bs a b : Nat) (v : Int32) (σ : tyT), s0 < σ.1 → RQ h x tp n w σ (c ++ cc) (P ++ W) o bs → (∀ u ∈ P, u = 1 ∨ u = 2 ∨ u = 3 ∨ u = 4) → stopB bs W → (∀ u, W.head? = some u → 5 ≤ u) → isS tp n σ 42 = false → isS tp n σ 47 = false → 1602 ≤ a + σ.1 → 1602 ≤ b + σ.1 → 1600 ≤ k + σ.1 → SmmR x tp n w s0 (pSL tp n G o k (cc ++ P) σ) h c W o bs (PA a b x v h) v := by
  intro k
  induction k with
  | zero =>
    intro s0 h c cc P W o bs a b v σ s1 T hP hW hd m1 m2 fa fb hk
    exact ⟨h, a, b, cc, P, rfl, fa, fb, s1, T, rfl, hP, ⟨m1, m2, isS_out (by show n ≤ σ.1; omega) _, isS_out (by show n ≤ σ.1; omega) _⟩, QX.refl⟩
  | succ k ih =>
    intro s0 h c cc P W o bs a b v σ s1 T hP hW hd m1 m2 fa fb hk
    have sn := T.1.2.1.1
    have st : ∀ s q, (s = 43 ∧ q = 1 ∨ s = 45 ∧ q = 2) → isS tp n σ s = true → SmmR x tp n w s0 (bR (G 4 o (nS tp n σ)) fun c2 σ2 => pSL tp n G o k (cc ++ P ++ c2 ++ [q]) σ2) h c W o bs (PA a b x v h) v := by
      intro s q hs z
      obtain ⟨h1, e1, T1, q1⟩ := a_add (k1 := a) (k2 := b) (v := v) T tb hn rfl hP (fun u hu => by have := hd u hu; omega) hW hs z (by omega) (by omega)
      have ns := (nS_ok z).2
      have hq : [q] = [] ∨ [q] = [1] ∨ [q] = [2] := by rcases hs with ⟨-, rfl⟩ | ⟨-, rfl⟩ <;> simp
      have i := I4 h1 (c ++ cc ++ P) [q] W o bs FU (b - 1) v (nS tp n σ) T1 hq hW hd (by unfold FU; omega) (by omega)
      revert i
      cases G 4 o (nS tp n σ) with
      | none => intro _; exact trivial
      | some r =>
        cases r with
        | inl e => intro i; exact FLQ.of i e1 q1
        | inr r =>
          rintro ⟨h2, a2, b2, cc2, P2, e2, g1, g2, g0, T2, g3, g4, g5, g6, q2⟩
          rw [show c ++ cc ++ P ++ cc2 = c ++ (cc ++ P ++ cc2) by simp, show P2 ++ ([q] ++ W) = (P2 ++ [q]) ++ W by simp] at T2
          have i := ih s0 h2 c (cc ++ P ++ cc2) (P2 ++ [q]) W o bs a2 b2 v r.2 (by omega) T2 (by
            intro u hu
            rcases List.mem_append.mp hu with y | y
            · rcases a3_nb g4 u y with rfl | rfl <;> simp
            · rcases hs with ⟨-, rfl⟩ | ⟨-, rfl⟩ <;> simp at y <;> omega) hW hd g5 g6 g1 g2 (by omega)
          rw [show cc ++ P ++ cc2 ++ (P2 ++ [q]) = cc ++ P ++ r.1 ++ [q] by rw [g3]; simp] at i
          show SmmR x tp n w s0 (pSL tp n G o k (cc ++ P ++ r.1 ++ [q]) r.2) h c W o bs (PA a b x v h) v
          revert i
          cases pSL tp n G o k (cc ++ P ++ r.1 ++ [q]) r.2 with
          | none => intro _; exact trivial
          | some t =>
            cases t with
            | inl e => intro i; exact FLQ.of i (e1.trans e2) (q1.trans q2)
            | inr t =>
              rintro ⟨h3, a3, b3, cc3, P3, e3, k1, k2, k0, T3, k3, k4, k5, q3⟩
              exact ⟨h3, a3, b3, cc3, P3, e1.trans (e2.trans e3), k1, k2, k0, T3, k3, k4, k5, (q1.trans q2).trans q3⟩
    unfold pSL
    by_cases z1 : isS tp n σ 43 = true
    · rw [if_pos z1]
      exact st 43 1 (.inl ⟨rfl, rfl⟩) z1
    · rw [if_neg z1]
      by_cases z2 : isS tp n σ 45 = true
      · rw [if_pos z2]
        exact st 45 2 (.inr ⟨rfl, rfl⟩) z2
      · rw [if_neg z2]
        exact ⟨h, a, b, cc, P, rfl, fa, fb, s1, T, rfl, hP, ⟨m1, m2, isS_f z1, isS_f z2⟩, QX.refl⟩
theorem s_sum (tb : ∀ j, tp j ≤ 255) (hn : n ≤ 1600) (I4 : Prd x tp n w (G 4)) : Smm x tp n w (pSum tp n G) := by
  intro h c W o bs k1 k2 v σ T hW hd f1 f2
  have i := I4 h c [] W o bs k1 k2 v σ T (.inl rfl) hW hd f1 f2
  unfold pSum
  revert i
  cases G 4 o σ with
  | none => intro _; exact trivial
  | some r =>
    cases r with
    | inl e => intro i; exact i
    | inr r =>
      rintro ⟨h1, a, b, cc, P, e1, g1, g2, g0, T1, g3, g4, g5, g6, q1⟩
      have i := s_sl tb hn I4 1600 σ.1 h1 c cc P W o bs a b v r.2 g0 T1 (fun u hu => by rcases a3_nb g4 u hu with rfl | rfl <;> simp) hW hd g5 g6 g1 g2 (by omega)
      rw [← g3] at i
      show SmmR x tp n w σ.1 (pSL tp n G o 1600 r.1 r.2) h c W o bs (PE k1 k2 x v h) v
      revert i
      cases pSL tp n G o 1600 r.1 r.2 with
      | none => intro _; exact trivial
      | some t =>
        cases t with
        | inl e => intro i; exact FLQ.of i e1 q1
        | inr t =>
          rintro ⟨h3, a3, b3, cc3, P3, e3, k1, k2, k0, T3, k3, k4, k5, q3⟩
          exact ⟨h3, a3, b3, cc3, P3, e1.trans e3, k1, k2, k0, T3, k3, k4, k5, q1.trans q3⟩
/-- all of them -/
theorem s_all (tb : ∀ j, tp j ≤ 255) (hn : n ≤ 1600) (hw : w < 4) : ∀ f, Smm x tp n w (pD tp n w f 3) ∧ Prd x tp n w (pD tp n w f 4) ∧ Prt x tp n w (fun _ => True) (pD tp n w f 5) ∧ Prt x tp n w (fun σ => isW tp n σ 23 = true ∨ isW tp n σ 24 = true) (pD tp n w f 6) ∧ Prt x tp n w (fun σ => isN tp n σ = false ∧ isS tp n σ 40 = false ∧ isW tp n σ 23 = false ∧ isW tp n σ 24 = false) (pD tp n w f 7) := by
  intro f
  induction f with
  | zero => exact ⟨fun _ _ _ _ _ _ _ _ _ _ _ _ _ _ => trivial, fun _ _ _ _ _ _ _ _ _ _ _ _ _ _ _ _ => trivial, fun _ _ _ _ _ _ _ _ _ _ _ _ _ _ _ _ _ => trivial, fun _ _ _ _ _ _ _ _ _ _ _ _ _ _ _ _ _ => trivial, fun _ _ _ _ _ _ _ _ _ _ _ _ _ _ _ _ _ => trivial⟩
  | succ f ih =>
    obtain ⟨i3, i4, i5, i6, i7⟩ := ih
    exact ⟨s_sum (G := pD tp n w f) tb hn i4, s_prod (G := pD tp n w f) tb hn i5, s_part (G := pD tp n w f) tb hn hw i3 i6 i7, s_pair (G := pD tp n w f) tb hn hw i3, s_word (G := pD tp n w f) tb hn hw i5⟩
end Rk
