/-! A MACHINE'S TEXT: what is read keeps to the rules; the class reads a machine -/
section Go
variable {tp : Nat → Nat} {n : Nat} {σ : tyT} {B : tyB}
theorem bF_inv {α β : Type} {r : tyF α} {f : α → tyF β} {q : β} (e : bF r f = .inr q) : ∃ p, r = .inr p ∧ f p = .inr q := by
  cases r with
  | inl a => cases e
  | inr p => exact ⟨p, rfl, e⟩
theorem pNu_inv {lo hi : Nat} {q : Nat × tyT} (e : pNu tp n lo hi σ = .inr q) : lo ≤ q.1 ∧ q.1 ≤ hi := by
  unfold pNu at e
  by_cases z : isN tp n σ = true
  · rw [if_pos z] at e
    by_cases c : rn isD tp n σ.1 - σ.1 ≤ 4
    · rw [if_pos c] at e
      by_cases l : lo ≤ nv tp n σ ∧ nv tp n σ ≤ hi
      · rw [if_pos l] at e; cases e; exact l
      · rw [if_neg l] at e; cases e
    · rw [if_neg c] at e; cases e
  · rw [if_neg z] at e; cases e
theorem pNm_inv {q : List Nat × tyT} (e : pNm tp n σ = .inr q) : 1 ≤ q.1.length ∧ q.1.length ≤ 6 ∧ ∀ c ∈ q.1, 1 ≤ c ∧ c ≤ 26 := by
  unfold pNm at e
  by_cases z : isNm tp n σ = true
  · rw [if_pos z] at e
    by_cases c : rn isL tp n σ.1 - σ.1 ≤ 6
    · rw [if_pos c] at e
      cases e
      obtain ⟨q1, q2, -⟩ := isNm_t z
      have l := ltr_ok (tp := tp) (n := n) q1 q2
      exact ⟨l.1, by show (ltr tp n σ).length ≤ 6; omega, l.2.2⟩
    · rw [if_neg c] at e; cases e
  · rw [if_neg z] at e; cases e
theorem pMem_ok {q : tyB × tyT} (e : pMem tp n σ = .inr q) : okQ q.1 := by
  unfold pMem at e
  obtain ⟨σ1, -, e⟩ := bF_inv e
  obtain ⟨q1, e1, e⟩ := bF_inv e
  obtain ⟨σ2, -, e⟩ := bF_inv e
  obtain ⟨q2, e2, e⟩ := bF_inv e
  cases e
  have a := pNu_inv e1
  have b := pNu_inv e2
  exact ⟨b.1, b.2, a.1, a.2, Nat.zero_le _, fun s hs => absurd hs (Nat.not_lt_zero _), fun s hs => absurd hs (Nat.not_lt_zero _), fun w hw => Or.inl rfl⟩
theorem pShf_ok (o : okQ B) {q : tyB × tyT} (e : pShf tp n B σ = .inr q) : okQ q.1 := by
  unfold pShf at e
  by_cases c : B.2.2.1 < 4
  · rw [if_pos c] at e
    obtain ⟨q1, e1, e⟩ := bF_inv e
    by_cases t : tws B q1.1 = true
    · rw [if_pos t] at e; cases e
    · rw [if_neg t] at e
      obtain ⟨σ2, -, e⟩ := bF_inv e
      obtain ⟨k, e2, e⟩ := bF_inv e
      cases e
      have a := pNm_inv e1
      have b := pNu_inv e2
      obtain ⟨o1, o2, o3, o4, o5, o6, o7, o8⟩ := o
      refine ⟨o1, o2, o3, o4, c, fun s hs => ?_, fun s hs => ?_, o8⟩
      · have hs' : s < B.2.2.1 + 1 := hs
        show 1 ≤ (updA B.2.2.2.1 B.2.2.1 q1.1 s).length ∧ (updA B.2.2.2.1 B.2.2.1 q1.1 s).length ≤ 6 ∧ ∀ c ∈ updA B.2.2.2.1 B.2.2.1 q1.1 s, 1 ≤ c ∧ c ≤ 26
        unfold updA
        by_cases y : s = B.2.2.1
        · rw [if_pos y]; exact a
        · rw [if_neg y]; exact o6 s (by omega)
      · have hs' : s < B.2.2.1 + 1 := hs
        show 1 ≤ updA B.2.2.2.2.1 B.2.2.1 k.1 s ∧ updA B.2.2.2.2.1 B.2.2.1 k.1 s ≤ 7
        unfold updA
        by_cases y : s = B.2.2.1
        · rw [if_pos y]; exact b
        · rw [if_neg y]; exact o7 s (by omega)
  · rw [if_neg c] at e; cases e
theorem pFm_ok {w i : Nat} (hw : w < 3) (iw : isW tp n σ i = true) (o : okQ B) {q : tyB × tyT} (e : pFm tp n w B σ = .inr q) : okQ q.1 := by
  unfold pFm at e
  by_cases c : (B.2.2.2.2.2 w).isEmpty = true
  · rw [if_pos c] at e
    have g := pD_good (tp := tp) (n := n) (w := w) 100 (tgW w) 0 (nW tp n σ) (by unfold tgW; split <;> omega) (by omega) (nW_ok iw).1 (by unfold tgW; split <;> omega) (by unfold tgW; split <;> decide)
    revert e g
    cases pD tp n w 100 (tgW w) 0 (nW tp n σ) with
    | none => intro e; cases e
    | some r =>
      cases r with
      | inl e' => intro e; cases e
      | inr q' =>
        intro e g
        cases e
        have t := g.2.2.2.nil (by unfold tgW; split <;> decide)
        obtain ⟨o1, o2, o3, o4, o5, o6, o7, o8⟩ := o
        refine ⟨o1, o2, o3, o4, o5, o6, o7, fun w' hw' => ?_⟩
        show updA B.2.2.2.2.2 w q'.1 w' = [] ∨ tyC (alC w') (updA B.2.2.2.2.2 w q'.1 w') [] = some [decide (w' = 2)]
        unfold updA
        by_cases y : w' = w
        · rw [if_pos y, y]
          right
          rw [t]
          unfold tgW
          by_cases y2 : w = 2
          · rw [if_pos y2]; simp [y2]
          · rw [if_neg y2]; simp [y2]
        · rw [if_neg y]; exact o8 w' hw'
  · rw [if_neg c] at e; cases e
theorem pStm_ok (o : okQ B) {q : tyB × tyT} (e : pStm tp n B σ = .inr q) : okQ q.1 := by
  unfold pStm at e
  by_cases i2 : isW tp n σ 2 = true
  · rw [if_pos i2] at e; exact pShf_ok o e
  rw [if_neg i2] at e
  by_cases i4 : isW tp n σ 4 = true
  · rw [if_pos i4] at e; exact pFm_ok (by omega) i4 o e
  rw [if_neg i4] at e
  by_cases i5 : isW tp n σ 5 = true
  · rw [if_pos i5] at e; exact pFm_ok (by omega) i5 o e
  rw [if_neg i5] at e
  by_cases i6 : isW tp n σ 6 = true
  · rw [if_pos i6] at e; exact pFm_ok (by omega) i6 o e
  rw [if_neg i6] at e
  cases e
theorem pEnd_ok {r : tyF (tyB × tyT)} (k : ∀ q, r = .inr q → okQ q.1) {q : tyB × tyT} (e : pEnd tp n r = .inr q) : okQ q.1 := by
  unfold pEnd at e
  obtain ⟨p, e1, e⟩ := bF_inv e
  obtain ⟨σ1, -, e⟩ := bF_inv e
  cases e
  exact k p e1
theorem pLp_ok : ∀ (m k : Nat) (B : tyB) (σ : tyT) (q : Nat × tyB), okQ B → pLp tp n m k B σ = .inr q → okQ q.2 ∧ k ≤ q.1 ∧ q.1 ≤ k + m := by
  intro m
  induction m with
  | zero =>
    intro k B σ q o e
    unfold pLp at e
    by_cases c : σ.1 < n
    · rw [if_pos c] at e; cases e
    · rw [if_neg c] at e; cases e; exact ⟨o, Nat.le_refl _, Nat.le_refl _⟩
  | succ m ih =>
    intro k B σ q o e
    unfold pLp at e
    by_cases c : σ.1 < n
    · rw [if_pos c] at e
      obtain ⟨p, e1, e⟩ := bF_inv e
      have := ih (k + 1) p.1 p.2 q (pEnd_ok (fun q h => pStm_ok o h) e1) e
      exact ⟨this.1, by omega, by omega⟩
    · rw [if_neg c] at e; cases e; exact ⟨o, Nat.le_refl _, by show k ≤ k + (m + 1); omega⟩
end Go
section Gr
variable {h h1 : aH} {x a n u : Nat} {tp : Nat → Nat} {σ : tyT} {B : tyB}
def LcR (x a n : Nat) (r : tyF (Nat × tyB)) (h : aH) (s : Option (Int32 × aH)) : Prop := match r with
  | .inl e => ∃ h1, s = some (nI 0, h1) ∧ hI h1 (x + 104) 0 = nI e.1 ∧ hI h1 (x + 104) 1 = nI e.2 ∧ PM x a h h1
  | .inr q => ∃ h1 u, s = some (nI 1, h1) ∧ MN h1 a u q.2 ∧ u ≤ n ∧ hI h1 a 0 = nI q.1 ∧ hI h1 (x + 104) 0 = nI 0 ∧ hI h1 (x + 104) 1 = -nI 1 ∧ PM x a h h1
theorem lc_pre {h0 : aH} {r : tyF (Nat × tyB)} {s s' : Option (Int32 × aH)} (k : LcR x a n r h s) (e : s' = s) (p : PM x a h0 h) : LcR x a n r h0 s' := by
  cases r with
  | inl y =>
    obtain ⟨h1, e1, a1, a2, q⟩ := k
    exact ⟨h1, e.trans e1, a1, a2, p.trans q⟩
  | inr y =>
    obtain ⟨h1, u, e1, a1, a2, a3, a4, a5, q⟩ := k
    exact ⟨h1, u, e.trans e1, a1, a2, a3, a4, a5, p.trans q⟩
/-- the text's end, or too many statements -/
theorem c_62 {k : Nat} (C : CS h x a tp n u B σ) (k1 : 1 ≤ k) (k2 : k ≤ 100) (c0 : hI h a 0 = nI k) : LcR x a n (if σ.1 < n then .inl (5, σ.1) else .inr (k, B)) h (f_X5_readMachine_62 (x + 104) a h) := by
  obtain ⟨T, M, ul⟩ := C
  have S := T.xs
  have ha := T.2.2.2.1
  have kl := tkK_le (tp := tp) (n := n) (σ := σ)
  have t0 := tkK_0 T.2.1
  unfold f_X5_readMachine_62
  rw [ko_t S.k104, kr_t S.r104_2, ko_t S.k105, T.1.2.1]
  by_cases z : σ.1 < n
  · rw [if_pos z, if_neg (show ¬ nI (tkK tp n σ) = (0 : Int32) from fun y => t0.mp ((nI_eq (b := 0) (by omega) (by omega)).mp y) z), T.v3]
    exact ⟨_, fl_b S, flX_0, flX_1, pm_fl⟩
  · rw [if_neg z, if_pos (show nI (tkK tp n σ) = (0 : Int32) by rw [t0.mpr z]; rfl), ko_t (S.ma ha).k, c0, if_pos (show (0 : Int32) < nI k by rw [show (0 : Int32) = nI 0 from rfl, nI_ltI (by omega) (by omega)]; omega)]
    refine ⟨h, u, ?_, M, Nat.le_trans ul T.2.1.1, c0, T.2.2.2.2.1, T.2.2.2.2.2, PM.refl⟩
    unfold f_X5_readMachine_107 f_X5_readMachine_112
    rw [show (1 : Int32) = nI 1 from rfl, z1_G]
/-- a statement, its end, and what follows -/
theorem c_step {fu i : Nat} {r : tyF (tyB × tyT)} {f : tyB × tyT → tyF (Nat × tyB)} {s : Option (Int32 × aH)} (hi : i < 100) (c0 : hI h a 0 = nI i) (ha : a = x + 92 ∨ a = x + 98) (tb : ∀ j, tp j ≤ 255) (hn : n ≤ 1600) (k : CsR x a tp n r h s) (kk : ∀ h1 u q, CS h1 x a tp n u q.1 q.2 → hI h1 a 0 = nI (i + 1) → pEnd tp n r = .inr q → LcR x a n (f q) h1 (f_X5_readMachine_10 fu (x + 104) a (nI (i + 1)) h1)) : LcR x a n (bF (pEnd tp n r) f) h (bd s fun v23 h24 => if v23 = 0 then f_X5_readMachine_44 h24 else ko h24 (x + 104) 5 <| bd (f_X5_sign (x + 104) 59 h24) fun v27 h28 => if v27 = 0 then f_X5_readMachine_44 h28 else ko h28 a 4 <| nm (nI i + 1) fun (v32 : Int32) => f_X5_readMachine_10 fu (x + 104) a v32 (sI h28 a 0 ((hI h28 a 0) + 1))) := by
  cases r with
  | inl e =>
    obtain ⟨h1, e1, a1, a2, p⟩ := k
    refine ⟨h1, ?_, a1, a2, p⟩
    rw [bd_t e1, if_pos (show nI 0 = (0 : Int32) from rfl)]
    rfl
  | inr q =>
    obtain ⟨h1, u, e1, ⟨T1, M1, ul⟩, p1, c1⟩ := k
    have S1 := T1.xs
    rw [bd_t e1, if_neg (show ¬ nI 1 = (0 : Int32) by decide), ko_t S1.k104]
    have sg := ct_sign T1 tb hn (q := 59) (by decide) (by decide) (by omega)
    have eP : pEnd tp n (.inr q) = bF (pSg tp n 59 q.2) fun σ => .inr (q.1, σ) := rfl
    rw [eP] at kk ⊢
    revert sg kk
    cases es : pSg tp n 59 q.2 with
    | inl e =>
      intro kk sg
      refine ⟨_, ?_, flX_0, flX_1, p1.trans pm_fl⟩
      rw [bd_t (show f_X5_sign (x + 104) 59 h1 = _ from sg), if_pos (show nI 0 = (0 : Int32) from rfl)]
      rfl
    | inr σ2 =>
      rintro kk ⟨h2, e2, T2, p2⟩
      have c2 : hI h2 a 0 = nI i := by rw [p2.i (by omega), c1]; exact c0
      obtain ⟨h3, hh3⟩ : ∃ h3, h3 = sI h2 a 0 (nI (i + 1)) := ⟨_, rfl⟩
      have g3 : ∀ b j, ¬ (b = a ∧ j = 0) → hI h3 b j = hI h2 b j := fun b j z => by rw [hh3, hI_sI, if_neg z]
      have T3 : CT h3 x a tp n σ2 := T2.fr (by rw [hh3]; rfl) (by rw [hh3]; rfl) (fun b j y => g3 b j (by omega))
      have M3 : MN h3 a u q.1 := M1.fr (fun b j b1 b2 z => by rw [g3 b j z, p2.i (by omega)])
      have l2 : u ≤ σ2.1 := by
        unfold pSg at es
        by_cases y : isS tp n q.2 59 = true
        · rw [if_pos y] at es
          cases es
          have := (nS_ok y).2
          omega
        · rw [if_neg y] at es; cases es
      have p3 : PM x a h2 h3 := by rw [hh3]; exact pm_s (by unfold PMc; omega)
      have fin := kk h3 u (q.1, σ2) ⟨T3, M3, l2⟩ (by rw [hh3, hI_sI, if_pos ⟨rfl, rfl⟩]) rfl
      refine lc_pre fin ?_ ((p1.trans p2.pm).trans p3)
      rw [bd_t (show f_X5_sign (x + 104) 59 h1 = _ from e2), if_neg (show ¬ nI 1 = (0 : Int32) by decide), ko_t (T2.xs.ma ha).k, c2]
      dsimp only [nm]
      rw [show nI i + 1 = nI (i + 1) from nI_add i 1, ← hh3]
theorem c_loop (tb : ∀ j, tp j ≤ 255) (hn : n ≤ 1600) (ha : a = x + 92 ∨ a = x + 98) : ∀ (m i fu : Nat) (h : aH) (u : Nat) (B : tyB) (σ : tyT), i + m = 40 → 1 ≤ i → m < fu → okQ B → CS h x a tp n u B σ → hI h a 0 = nI i → LcR x a n (pLp tp n m i B σ) h (f_X5_readMachine_10 fu (x + 104) a (nI i) h) := by
  intro m
  induction m with
  | zero =>
    intro i fu h u B σ hi i1 hf o C c0
    obtain ⟨fu, rfl⟩ : ∃ m, fu = m + 1 := ⟨fu - 1, by omega⟩
    have hi : i = 40 := by omega
    subst hi
    show LcR x a n _ h (b_X5_readMachine_10 (f_X5_readMachine_10 fu) (x + 104) a (nI 40) h)
    unfold b_X5_readMachine_10 pLp
    rw [if_pos (show (40 : Int32) ≤ nI 40 by decide)]
    exact c_62 C (by omega) (by omega) c0
  | succ m ih =>
    intro i fu h u B σ hi i1 hf o C c0
    obtain ⟨fu, rfl⟩ : ∃ m, fu = m + 1 := ⟨fu - 1, by omega⟩
    have T := C.1
    have S := T.xs
    have kl := tkK_le (tp := tp) (n := n) (σ := σ)
    have t0 := tkK_0 T.2.1
    show LcR x a n _ h (b_X5_readMachine_10 (f_X5_readMachine_10 fu) (x + 104) a (nI i) h)
    unfold b_X5_readMachine_10 pLp
    rw [if_neg (show ¬ (40 : Int32) ≤ nI i by rw [show (40 : Int32) = nI 40 from rfl, nI_leI (by omega) (by omega)]; omega), ko_t S.k104, kr_t S.r104_2, ko_t S.k105, T.1.2.1]
    by_cases z : σ.1 < n
    · rw [if_pos z, if_neg (show ¬ nI (tkK tp n σ) = (0 : Int32) from fun y => t0.mp ((nI_eq (b := 0) (by omega) (by omega)).mp y) z)]
      exact c_step (by omega) c0 ha tb hn (c_stm C tb hn o i1 (by omega) c0) (fun h1 u1 q C1 d0 e => ih (i + 1) fu h1 u1 q.1 q.2 (by omega) (by omega) (by omega) (pEnd_ok (fun q h => pStm_ok o h) e) C1 d0)
    · have := c_62 C i1 (by omega) c0
      rw [if_neg z] at this
      rw [if_neg z, if_pos (show nI (tkK tp n σ) = (0 : Int32) by rw [t0.mpr z]; rfl)]
      exact this
theorem c_readM (S : XS h x) (ha : a = x + 92 ∨ a = x + 98) (hb : ∀ j, j < 1600 → hI h (x + 1) j = (nI (tp j)).toInt8.toInt32) (tb : ∀ j, tp j ≤ 255) (hn : n ≤ 1600) : ∃ h1, LcR x a n (pMac tp n) h1 (f_X5_readMachine (x + 104) (x + 1) (nI n) a h) ∧ FX x (PC x) (b7H (b5H h x a) x n) h1 ∧ hR h1 = hR (b7H (b5H h x a) x n) ∧ hL h1 = hL h := by
  obtain ⟨h1, e1, T1, i3, C0, f4, f5, b0, b1, fx, r1, l1⟩ := c_begin5 S ha hb tb hn
  have S1 := T1.1.1
  have T : CT h1 x a tp n (sk tp n 0, false) := ⟨T1, okS.sk (Nat.zero_le n) false, i3, ha, b0, b1⟩
  have gI := fx.2.2.2.2.1
  have g : ∀ b j, a ≤ b → b < a + 6 → hI h1 b j = hI (clM (sR (sI (sI h (x + 104) 0 (nI 0)) (x + 104) 1 (-nI 1)) (x + 104) 3 (some a)) a) b j := by
    intro b j b1 b2
    rw [gI b j (by unfold PC; omega)]
    unfold b7H b5H
    rw [hI_sI, if_neg (by omega), hI_sI, if_neg (by omega), hI_sI, if_neg (by omega), hI_sR]
  have z0 : hI h1 a 0 = nI 0 := by
    rw [g _ _ (by omega) (by omega)]; unfold clM
    rw [hI_fb, if_neg (by omega), hI_fb, if_neg (by omega), hI_fb, if_neg (by omega), hI_sI, if_neg (by omega), hI_sI, if_neg (by omega), hI_sI, if_pos ⟨rfl, rfl⟩]
  have z3 : hI h1 a 3 = nI 0 := by
    rw [g _ _ (by omega) (by omega)]; unfold clM
    rw [hI_fb, if_neg (by omega), hI_fb, if_neg (by omega), hI_fb, if_neg (by omega), hI_sI, if_neg (by omega), hI_sI, if_pos ⟨rfl, rfl⟩]
  have z9 : hI h1 a 9 = nI 0 := by
    rw [g _ _ (by omega) (by omega)]; unfold clM
    rw [hI_fb, if_neg (by omega), hI_fb, if_neg (by omega), hI_fb, if_neg (by omega), hI_sI, if_pos ⟨rfl, rfl⟩]
  have z4 : ∀ w, w < 3 → hI h1 (a + 4) w = nI 0 ∧ hI h1 (a + 5) w = nI 0 := by
    intro w hw
    refine ⟨?_, ?_⟩
    · rw [g _ _ (by omega) (by omega)]; unfold clM
      rw [hI_fb, if_neg (by omega), hI_fb, if_pos (by omega)]
    · rw [g _ _ (by omega) (by omega)]; unfold clM
      rw [hI_fb, if_pos (by omega)]
  refine ⟨h1, ?_, fx, r1, l1⟩
  have e : f_X5_readMachine (x + 104) (x + 1) (nI n) a h = f_X5_readMachine_10 FU (x + 104) a (nI 0) h1 := by
    unfold f_X5_readMachine
    rw [ko_t S.k104, bd_t e1]
    rfl
  rw [e]
  obtain ⟨fu, hfu⟩ : ∃ fu, FU = fu + 1 := ⟨9999, rfl⟩
  rw [hfu]
  have kl := tkK_le (tp := tp) (n := n) (σ := (sk tp n 0, false))
  have t0 := tkK_0 T.2.1
  have A1 := S1.ma ha
  show LcR x a n _ h1 (b_X5_readMachine_10 (f_X5_readMachine_10 fu) (x + 104) a (nI 0) h1)
  unfold b_X5_readMachine_10 pMac
  rw [if_neg (show ¬ (40 : Int32) ≤ nI 0 by decide), ko_t S1.k104, kr_t S1.r104_2, ko_t S1.k105, T.1.2.1]
  by_cases z : (sk tp n 0, false).1 < n
  · rw [if_neg (show ¬ nI (tkK tp n (sk tp n 0, false)) = (0 : Int32) from fun y => t0.mp ((nI_eq (b := 0) (by omega) (by omega)).mp y) z)]
    have st : CsR x a tp n (pMem tp n (sk tp n 0, false)) h1 (f_X5_statement (x + 104) a h1) := by
      unfold f_X5_statement
      rw [ko_t A1.k, z0, if_pos (show nI 0 = (0 : Int32) from rfl), ko_t S1.k104]
      exact cs_chk (c_mem T tb hn z3 z4 z9)
    exact c_step (fu := fu) (by omega) z0 ha tb hn st (fun h2 u1 q C1 d0 e => c_loop tb hn ha 39 1 fu h2 u1 q.1 q.2 (by omega) (by omega) (by have : FU = 10000 := rfl; omega) (pEnd_ok (fun q h => pMem_ok h) e) C1 d0)
  · have nw : ¬ isW tp n (sk tp n 0, false) 0 = true := fun y => z (isW_t y).1
    have pm : pMem tp n (sk tp n 0, false) = .inl (1, sk tp n 0) := by unfold pMem pWd; rw [if_neg nw]; rfl
    rw [if_pos (show nI (tkK tp n (sk tp n 0, false)) = (0 : Int32) by rw [t0.mpr z]; rfl), pm]
    refine ⟨flX h1 x 1 (sk tp n 0), ?_, flX_0, flX_1, pm_fl⟩
    have v3 : hI h1 (x + 105) 3 = nI (sk tp n 0) := T.v3
    unfold f_X5_readMachine_62
    rw [ko_t S1.k104, kr_t S1.r104_2, ko_t S1.k105, T.1.2.1, if_pos (show nI (tkK tp n (sk tp n 0, false)) = (0 : Int32) by rw [t0.mpr z]; rfl), ko_t A1.k, z0, if_neg (show ¬ (0 : Int32) < nI 0 by decide), v3, bd_t (show f_X5_fail (x + 104) 1 (nI (sk tp n 0)) h1 = _ from c_failX S1 (k := 1) (p := sk tp n 0)), if_pos (show nI 0 = (0 : Int32) from rfl)]
    unfold f_X5_readMachine_112
    rw [show (0 : Int32) = nI 0 from rfl, z0_G]
    rfl
end Gr
