/-! QUESTIONS: the whole of ask, the class -/
/-- a question was read into the spare machine a -/
def GF (x a : Nat) (h h2 : aH) : Prop := hK h2 = hK h ∧ hN h2 = hN h ∧ hS h2 = hS h ∧ hL h2 = hL h ∧ (∀ b j, ¬ (b = x + 104 ∧ j = 3 ∨ b = x + 105 ∧ j = 0) → hR h2 b j = hR h b j) ∧ (∀ b j, ¬ (b = x ∧ j = 13 ∨ a ≤ b ∧ b < a + 6 ∨ b = x + 104 ∨ b = x + 105) → hI h2 b j = hI h b j) ∧ hI h2 x 13 = nI 0
section Hk0
variable {h h1 h2 : aH} {x a n : Nat}
theorem b75_I {b j : Nat} (z : ¬ (a ≤ b ∧ b < a + 6 ∨ b = x + 104 ∨ b = x + 105)) : hI (b7H (b5H h x a) x n) b j = hI h b j := by
  unfold b7H b5H
  rw [hI_sI, if_neg (by omega), hI_sI, if_neg (by omega), hI_sI, if_neg (by omega), hI_sR, clM_o (by omega), hI_sR, hI_sI, if_neg (by omega), hI_sI, if_neg (by omega)]
theorem b75_R {b j : Nat} (z : ¬ (b = x + 104 ∧ j = 3 ∨ b = x + 105 ∧ j = 0)) : hR (b7H (b5H h x a) x n) b j = hR h b j := by
  show (if b = x + 105 ∧ j = 0 then some (x + 1) else if b = x + 104 ∧ j = 3 then some a else hR h b j) = hR h b j
  rw [if_neg (by omega), if_neg (by omega)]
theorem gf_of (ha : a = x + 92 ∨ a = x + 98) (f1 : FX x (PC x) (b7H (b5H (sI h x 13 0) x a) x n) h1) (r1 : hR h1 = hR (b7H (b5H (sI h x 13 0) x a) x n)) (l1 : hL h1 = hL (sI h x 13 0)) (f2 : FX x (PQ x a) h1 h2) (r2 : hR h2 = hR h1) (l2 : hL h2 = hL h1) : GF x a h h2 := by
  have eI : ∀ b j, ¬ (a ≤ b ∧ b < a + 6 ∨ b = x + 104 ∨ b = x + 105) → hI h2 b j = hI (sI h x 13 0) b j := by
    intro b j z
    rw [f2.2.2.2.2.1 b j (by unfold PQ; omega), f1.2.2.2.2.1 b j (by unfold PC; omega), b75_I z]
  refine ⟨f2.1.trans (f1.1.trans rfl), f2.2.2.1.trans (f1.2.2.1.trans rfl), f2.2.2.2.1.trans (f1.2.2.2.1.trans rfl), l2.trans (l1.trans rfl), fun b j z => ?_, fun b j z => ?_, ?_⟩
  · rw [r2, r1, b75_R z]; rfl
  · rw [eI b j (by omega), hI_sI, if_neg (by omega)]
  · rw [eI _ _ (by omega), hI_sI, if_pos ⟨rfl, rfl⟩]; rfl
theorem GF.xs (G : GF x a h h2) (S : XS h x) : XS h2 x := S.fr (fun b _ => by rw [G.1]) (fun b j _ z => G.2.2.2.2.1 b j (by omega))
end Hk0
section Hk
variable {h : aH} {x r tl : Nat} {tp : Nat → Nat} {rf : Nat → Int32} {ft fp : Int32} {sd : Nat} {M mem sh : Nat} {ns : Nat → List Nat} {kd : Nat → Nat} {cd : Nat → List Nat} {N : tyN} {sl : Nat → tyN} {nx c cr : Nat} {rn : Nat} {rw_ : Nat → Nat} {on_ : Nat} {ob : Nat → Nat}
theorem CX.gf {a a' : Nat} {h2 h4 : aH} {u p : Int32} (C : CX h x (r, tl, tp, rf, ft, fp, sd) (M, mem, sh, ns, kd, cd) N (sl, nx, c, cr) (rn, rw_) (on_, ob)) (w : wB h x a a') (kb : r = 1 → mB h a M mem sh ns kd cd) (G : GF x a' h h2) (K : KF x (sI (sI h2 x 14 u) x 15 p) h4) : CX h4 x (r, 0, tp, rf, u, p, sd) (M, mem, sh, ns, kd, cd) N (sl, nx, c, cr) (rn, rw_) (on_, ob) ∧ FC x h h4 := by
  obtain ⟨g1, g2, g3, g4, g5, g6, g7⟩ := G
  obtain ⟨k1, k2, k3, k4, k5, k6⟩ := K
  have w1 := w.1
  have eK : hK h4 = hK h := k1.trans g1
  have eL : hL h4 = hL h := k2.trans g4
  have eR : ∀ b j, ¬ (b = x + 83 ∧ j = 4 ∨ b = x + 104 ∧ j = 3 ∨ b = x + 105 ∧ j = 0) → hR h4 b j = hR h b j := fun b j z => (k6 b j (by omega)).trans (g5 b j (by omega))
  have eI : ∀ b j, ¬ (b = x ∧ (j = 13 ∨ j = 14 ∨ j = 15) ∨ x + 83 ≤ b ∧ b < x + 86 ∨ a' ≤ b ∧ b < a' + 6 ∨ b = x + 104 ∨ b = x + 105) → hI h4 b j = hI h b j := by
    intro b j z
    rw [k5 b j (by omega), hI_sI, if_neg (by omega), hI_sI, if_neg (by omega), g6 b j (by omega)]
  refine ⟨C.upS w kb eK (fun b j z => eR b j (by omega)) (k3.trans g2) (k4.trans g3) eI rfl ?_, fun b b1 b2 => ⟨by rw [eK], fun j => ⟨eI b j (by omega), by rw [eL], eR b j (by omega)⟩⟩⟩
  obtain ⟨a1, a2, a3, a4, a5, a6, a7⟩ := C.2.1
  refine ⟨?_, ?_, ?_, ?_, ?_, ?_, ?_⟩
  · rw [eI _ _ (by omega)]; exact a1
  · rw [k5 _ _ (by omega), hI_sI, if_neg (by omega), hI_sI, if_neg (by omega)]; exact g7
  · intro j hj; rw [eI _ _ (by omega)]; exact a3 j hj
  · intro j hj; rw [eI _ _ (by omega)]; exact a4 j hj
  · rw [k5 _ _ (by omega), hI_sI, if_neg (by omega), hI_sI, if_pos ⟨rfl, rfl⟩]
  · rw [k5 _ _ (by omega), hI_sI, if_pos ⟨rfl, rfl⟩]
  · rw [eL]; exact a7
/-- what the class answers -/
def AnC (x : Nat) (A : tyA) (B : tyB) (N : tyN) (D : tyD) (E F : tyE) (h : aH) (r : Option ((Nat × Nat) ⊕ (Nat × List Nat))) : Prop := match r with
  | none => True
  | some (.inl e) => ∃ h1, f_X11_ask x h = some (-1000000000000000, h1) ∧ CX h1 x (A.1, 0, A.2.2.1, A.2.2.2.1, nI e.1, nI e.2, A.2.2.2.2.2.2) B N D E F ∧ FC x h h1
  | some (.inr q) => ∃ h1, f_X11_ask x h = some (vL (qaR q.1 (vlQ B.1 N q.2) 16), h1) ∧ CX h1 x (A.1, 0, A.2.2.1, A.2.2.2.1, nI 0, -nI 1, A.2.2.2.2.2.2) B N D E F ∧ FC x h h1
theorem c_askQ (C : CX h x (r, tl, tp, rf, ft, fp, sd) (M, mem, sh, ns, kd, cd) N (sl, nx, c, cr) (rn, rw_) (on_, ob)) (O : Ok (r, tl, tp, rf, ft, fp, sd) (M, mem, sh, ns, kd, cd) N (sl, nx, c, cr) (rn, rw_) (on_, ob)) (hr : r = 1) : AnC x (r, tl, tp, rf, ft, fp, sd) (M, mem, sh, ns, kd, cd) N (sl, nx, c, cr) (rn, rw_) (on_, ob) h (pAsk tp tl (sk tp tl 0, false)) := by
  have S := C.1
  obtain ⟨a, a', w, kb⟩ := C.2.2.1
  have kb : r = 1 → mB h a M mem sh ns kd cd := kb
  have w1 := w.1
  have ha : a = x + 92 ∨ a = x + 98 := by omega
  have ha' : a' = x + 92 ∨ a' = x + 98 := by omega
  have okn := O.okn hr
  have okb := O.okb hr
  have tb : ∀ j, tp j ≤ 255 := O.1.2.1
  have hl : tl ≤ 1600 := O.1.1
  have i12 : hI h x 12 = nI r := C.2.1.1
  have i13 : hI h x 13 = nI tl := C.2.1.2.1
  have hb : ∀ j, j < 1600 → hI (sI h x 13 0) (x + 1) j = (nI (tp j)).toInt8.toInt32 := fun j hj => by rw [hI_sI, if_neg (by omega)]; exact C.2.1.2.2.1 j hj
  have S0 : XS (sI h x 13 0) x := S.of rfl rfl
  obtain ⟨h1, ac, fx, r1, l1⟩ := c_readQ (h := sI h x 13 0) (x := x) (a := a') (n := tl) (tp := tp) S0 ha' hb tb hl
  have tt : f_X11_takeTape x h = some (nI tl, sI h x 13 0) := by
    unfold f_X11_takeTape
    dsimp only [nm]
    rw [ko_t S.k0, i13]
  have r10 : hR (sI h x 13 0) x 10 = some a' := w.2.2
  have r12 : ¬ hI (sI h x 13 0) x 12 = 0 := by rw [hI_sI, if_neg (by omega), i12, hr]; decide
  have kf : ∀ (g : aH) (u p : Int32), XS g x → hI g (x + 104) 0 = u → hI g (x + 104) 1 = p → f_X11_keepFault x g = some ((), sI (sI g x 14 u) x 15 p) := by
    intro g u p Sg e1 e2
    unfold f_X11_keepFault
    dsimp only [nm]
    rw [ko_t Sg.k0, kr_t Sg.r0_11, ko_t Sg.k104, e1, hI_sI, if_neg (by omega), e2]
  have good := pAsk_good (tp := tp) (n := tl) (σ := (sk tp tl 0, false))
  revert ac good
  cases pAsk tp tl (sk tp tl 0, false) with
  | none => intro _ _; exact trivial
  | some rr =>
    cases rr with
    | inl e =>
      rintro ⟨h2, e1, u0, u1, f2, r2, l2⟩ -
      have G := gf_of ha' fx r1 l1 f2 r2 l2
      have S2 := G.xs S
      have K : KF x (sI (sI h2 x 14 (nI e.1)) x 15 (nI e.2)) (sI (sI h2 x 14 (nI e.1)) x 15 (nI e.2)) := KF.refl x _
      obtain ⟨C4, F4⟩ := C.gf w kb G K
      refine ⟨_, ?_, C4, F4⟩
      unfold f_X11_ask
      rw [ko_t S.k0, bd_t tt, ko_t S0.k0, if_neg r12, kr_t S0.r0_11, kr_t S0.r0_0, kr_t r10, ko_t S0.k104, bd_t e1, ko_t S2.k0, bd_t (kf h2 _ _ S2 u0 u1), if_pos (show -nI 1 = (-1 : Int32) from rfl)]
      rfl
    | inr q =>
      rintro ⟨h2, e1, u0, u1, cdq, f4, f5, ql, f2, r2, l2⟩ ⟨k6, ty⟩
      have G := gf_of ha' fx r1 l1 f2 r2 l2
      have S2 := G.xs S
      obtain ⟨h3, hh3⟩ : ∃ h3, h3 = sI (sI h2 x 14 (nI 0)) x 15 (-nI 1) := ⟨_, rfl⟩
      have i3 : ∀ b j, ¬ (b = x ∧ (j = 14 ∨ j = 15)) → hI h3 b j = hI h2 b j := fun b j z => by rw [hh3, hI_sI, if_neg (by omega), hI_sI, if_neg (by omega)]
      have S3 : XS h3 x := by rw [hh3]; exact S2.of rfl rfl
      have R3 : RS h3 (x + 3) N := C.2.2.2.1.fr (fun b _ _ j => (i3 b j (by omega)).trans (G.2.2.2.2.2.1 b j (by omega)))
      have F3 : QF h3 a' q.2 := ⟨ql, (i3 _ _ (by omega)).trans f4, (i3 _ _ (by omega)).trans f5, fun i hi => (i3 _ _ (by omega)).trans (by have := cdq.2 i hi; rw [Nat.zero_add] at this; exact this)⟩
      have eR3 : hR h3 = hR h2 := by rw [hh3]; rfl
      have r9 : hR h3 x 9 = some a := by rw [eR3, G.2.2.2.2.1 _ _ (by omega)]; exact w.2.1
      have r103 : hR h3 x 10 = some a' := by rw [eR3, G.2.2.2.2.1 _ _ (by omega)]; exact w.2.2
      have m2 : hI h3 a 2 = nI M := by rw [i3 _ _ (by omega), G.2.2.2.2.2.1 _ _ (by omega)]; exact (kb hr).2.1
      have hv : ∀ i, i < 16 → OV (decide (q.1 < 3)) (vlQ M N q.2 i) := fun i hi => by
        obtain ⟨-, -, o, -⟩ := c_askOf S3 R3 okn okb.1 okb.2.1 ha' F3 ty hi
        exact o
      obtain ⟨h4, e4, K4⟩ := c_ans (κ := q.1) okn okb.1 okb.2.1 ha ha' ty k6 hv 16 0 h3 FU rfl (FU_gt (by omega)) S3 R3 r9 r103 m2 F3
      have K4' := K4
      rw [hh3] at K4'
      obtain ⟨C4, F4⟩ := C.gf w kb G K4'
      refine ⟨h4, ?_, C4, F4⟩
      have nm1 : ¬ nI (25 + q.1) = (-1 : Int32) := by
        have : ∀ k, k < 6 → ¬ nI (25 + k) = (-1 : Int32) := by decide
        exact this q.1 k6
      have an : f_X11_answer x (nI (25 + q.1)) h3 = some (vL (qaR q.1 (vlQ M N q.2) 16), h4) := e4
      unfold f_X11_ask
      rw [ko_t S.k0, bd_t tt, ko_t S0.k0, if_neg r12, kr_t S0.r0_11, kr_t S0.r0_0, kr_t r10, ko_t S0.k104, bd_t e1, ko_t S2.k0, bd_t (kf h2 _ _ S2 u0 u1), if_neg nm1, ← hh3, ko_t S3.k0, bd_t an]
      rfl
end Hk
