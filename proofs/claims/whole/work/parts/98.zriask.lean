/-! QUESTIONS: the whole of ask, the reference; both -/
/-- numbers of the reference that a question changes -/
def MC (x b j : Nat) : Prop := b = x + 107 ∧ (j = 1 ∨ j = 2 ∨ j = 3 ∨ j = 4 ∨ j = 5 ∨ j = 6 ∨ j = 7 ∨ j = 8 ∨ j = 10 ∨ j = 46 ∨ j = 48 ∨ j = 92 ∨ j = 94 ∨ j = 95 ∨ j = 96 ∨ j = 98 ∨ j = 100) ∨ b = x + 107 + 64 ∨ b = x + 107 + 65
def MG (x : Nat) (h h1 : aH) : Prop := hK h1 = hK h ∧ hR h1 = hR h ∧ hN h1 = hN h ∧ hS h1 = hS h ∧ (∀ b j, ¬ MC x b j → hI h1 b j = hI h b j) ∧ (∀ b j, ¬ (b = x + 107 ∧ j = 99 ∨ b = x + 107 + 66) → hL h1 b j = hL h b j)
theorem MG.trans {x : Nat} {h h1 h2 : aH} (p : MG x h h1) (q : MG x h1 h2) : MG x h h2 := ⟨q.1.trans p.1, q.2.1.trans p.2.1, q.2.2.1.trans p.2.2.1, q.2.2.2.1.trans p.2.2.2.1, fun b j z => (q.2.2.2.2.1 b j z).trans (p.2.2.2.2.1 b j z), fun b j z => (q.2.2.2.2.2 b j z).trans (p.2.2.2.2.2 b j z)⟩
theorem MG.s {x : Nat} {h : aH} {j : Nat} {v : Int32} (z : MC x (x + 107) j) : MG x h (sI h (x + 107) j v) := ⟨rfl, rfl, rfl, rfl, fun b i y => by rw [hI_sI, if_neg]; rintro ⟨rfl, rfl⟩; exact y z, fun _ _ _ => rfl⟩
theorem MG.l {x : Nat} {h : aH} {v : Int64} : MG x h (sL h (x + 107) 99 v) := ⟨rfl, rfl, rfl, rfl, fun _ _ _ => rfl, fun b i y => by rw [hL_sL, if_neg (by omega)]⟩
theorem QX.mg {x : Nat} {h h1 : aH} (q : QX x h h1) : MG x h h1 := ⟨q.1, q.2.1, q.2.2.2.1, q.2.2.2.2.1, fun b j z => q.2.2.2.2.2 b j (fun y => z (by unfold QC at y; unfold MC; omega)), fun b j _ => by rw [q.2.2.1]⟩
theorem RF.mg {x : Nat} {h h1 : aH} (q : RF x h h1) : MG x h h1 := ⟨q.1, q.2.1, q.2.2.1, q.2.2.2.1, fun b j z => q.2.2.2.2.1 b j (fun y => z (by unfold MC; omega)), q.2.2.2.2.2⟩
theorem MG.fm {x : Nat} {h h1 : aH} (q : MG x h h1) : FM x h h1 := ⟨q.1, q.2.1, q.2.2.1, q.2.2.2.1, fun b z j => ⟨q.2.2.2.2.1 b j (by unfold MC; omega), q.2.2.2.2.2 b j (by omega)⟩⟩
section Ik
variable {h : aH} {x r tl : Nat} {tp : Nat → Nat} {rf : Nat → Int32} {ft fp : Int32} {sd : Nat} {M mem sh : Nat} {ns : Nat → List Nat} {kd : Nat → Nat} {cd : Nat → List Nat} {N : tyN} {sl : Nat → tyN} {nx c cr : Nat} {rn : Nat} {rw_ : Nat → Nat} {on_ : Nat} {ob : Nat → Nat}
theorem CM.mg {h2 : aH} {u p : Int32} (Q : CM h (x + 107) (r, tl, tp, rf, ft, fp, sd) (M, mem, sh, ns, kd, cd) N (sl, nx, c, cr) (rn, rw_) (on_, ob)) (G : MG x h h2) (e1 : hI h2 (x + 107) 1 = nI 0) (e7 : hI h2 (x + 107) 7 = u) (e8 : hI h2 (x + 107) 8 = p) : CM h2 (x + 107) (r, 0, tp, rf, u, p, sd) (M, mem, sh, ns, kd, cd) N (sl, nx, c, cr) (rn, rw_) (on_, ob) := by
  have gI := G.2.2.2.2.1
  have gL := G.2.2.2.2.2
  refine Q.upS G.1 G.2.1 (fun b j z1 z2 => gI b j (by unfold LM at z1; unfold MC; omega)) (fun j _ => gL _ _ (by omega)) ?_
  obtain ⟨a1, a2, a3, a4, a5, a6, a7⟩ := Q.2.1
  refine ⟨?_, e1, fun j hj => ?_, fun k hk => ?_, e7, e8, ?_⟩
  · rw [gI _ _ (by unfold MC; omega)]; exact a1
  · rw [gI _ _ (by unfold MC; omega)]; exact a3 j hj
  · rw [gI _ _ (by unfold MC; omega)]; exact a4 k hk
  · rw [gL _ _ (by omega)]; exact a7
/-- what the reference answers -/
def AnM (x : Nat) (A : tyA) (B : tyB) (N : tyN) (D : tyD) (E F : tyE) (h : aH) (r : Option ((Nat × Nat) ⊕ (Nat × List Nat))) : Prop := match r with
  | none => True
  | some (.inl e) => ∃ h1, f_X12_ask (x + 107) h = some (-1000000000000000, h1) ∧ CM h1 (x + 107) (A.1, 0, A.2.2.1, A.2.2.2.1, nI e.1, nI e.2, A.2.2.2.2.2.2) B N D E F ∧ FM x h h1
  | some (.inr q) => ∃ h1, f_X12_ask (x + 107) h = some (vL (qaR q.1 (vlQ B.1 N q.2) 16), h1) ∧ CM h1 (x + 107) (A.1, 0, A.2.2.1, A.2.2.2.1, nI 0, -nI 1, A.2.2.2.2.2.2) B N D E F ∧ FM x h h1
def h0Q (h : aH) (x : Nat) : aH := sI (sI (sI (sI (sI (sI h (x + 107) 3 (hI h (x + 107) 1)) (x + 107) 1 (nI 0)) (x + 107) 2 (nI 0)) (x + 107) 4 (-nI 1)) (x + 107) 5 (nI 0)) (x + 107) 6 (-nI 1)
theorem h0Q.mg : MG x h (h0Q h x) := by
  unfold h0Q
  exact (((((MG.s (by unfold MC; omega)).trans (MG.s (by unfold MC; omega))).trans (MG.s (by unfold MC; omega))).trans (MG.s (by unfold MC; omega))).trans (MG.s (by unfold MC; omega))).trans (MG.s (by unfold MC; omega))
theorem frH.mg {w : Nat} : MG x h (frH h x w) := by
  unfold frH
  exact ((((MG.s (by unfold MC; omega)).trans (MG.s (by unfold MC; omega))).trans (MG.s (by unfold MC; omega))).trans (MG.s (by unfold MC; omega))).trans (MG.s (by unfold MC; omega))
theorem h0Q.rt (Q : CM h (x + 107) (r, tl, tp, rf, ft, fp, sd) (M, mem, sh, ns, kd, cd) N (sl, nx, c, cr) (rn, rw_) (on_, ob)) : RT (h0Q h x) x tp tl (sk tp tl 0, false) := by
  have G := h0Q.mg (h := h) (x := x)
  have e3 : hI (h0Q h x) (x + 107) 3 = nI tl := by
    unfold h0Q
    rw [hI_sI, if_neg (by omega), hI_sI, if_neg (by omega), hI_sI, if_neg (by omega), hI_sI, if_neg (by omega), hI_sI, if_neg (by omega), hI_sI, if_pos ⟨rfl, rfl⟩]
    exact Q.2.1.2.1
  refine ⟨⟨Q.1.of G.1 G.2.1, fun j hj => ?_, Q.2.2.2.2.2.2.2.fr (fun b j z => G.2.2.2.2.1 b j (by unfold MC; omega)), e3⟩, okS.sk (Nat.zero_le tl) false, ?_, 0, ?_, Nat.zero_le _, rfl, ?_, Or.inr ⟨rfl, Or.inl ?_⟩⟩
  · rw [G.2.2.2.2.1 _ _ (by unfold MC; omega)]; exact Q.2.1.2.2.1 j hj
  · unfold h0Q; rw [hI_sI, if_neg (by omega), hI_sI, if_pos ⟨rfl, rfl⟩]
  · unfold h0Q; rw [hI_sI, if_neg (by omega), hI_sI, if_neg (by omega), hI_sI, if_neg (by omega), hI_sI, if_pos ⟨rfl, rfl⟩]
  · unfold h0Q; rw [hI_sI, if_pos ⟨rfl, rfl⟩]
  · unfold h0Q; rw [hI_sI, if_neg (by omega), hI_sI, if_neg (by omega), hI_sI, if_pos ⟨rfl, rfl⟩]
theorem m_askQ (Q : CM h (x + 107) (r, tl, tp, rf, ft, fp, sd) (M, mem, sh, ns, kd, cd) N (sl, nx, c, cr) (rn, rw_) (on_, ob)) (O : Ok (r, tl, tp, rf, ft, fp, sd) (M, mem, sh, ns, kd, cd) N (sl, nx, c, cr) (rn, rw_) (on_, ob)) (hr : r = 1) : AnM x (r, tl, tp, rf, ft, fp, sd) (M, mem, sh, ns, kd, cd) N (sl, nx, c, cr) (rn, rw_) (on_, ob) h (pAsk tp tl (sk tp tl 0, false)) := by
  have T := Q.1
  have okn := O.okn hr
  have okb := O.okb hr
  have tb : ∀ j, tp j ≤ 255 := O.1.2.1
  have hl : tl ≤ 1600 := O.1.1
  have i45 : hI h (x + 107) 45 = nI r := Q.2.1.1
  have G0 : MG x h (frH (h0Q h x) x 3) := h0Q.mg.trans frH.mg
  have rq := fr_ok (w := 3) (h0Q.rt Q)
  have ap := m_askP rq tb hl
  have st : f_X12_ask (x + 107) h = AR x (frH (h0Q h x) x 3) := by
    unfold f_X12_ask
    rw [ko_t T.k, if_neg (show ¬ hI h (x + 107) 45 = 0 by rw [i45, hr]; decide)]
    rfl
  have i1 : hI (frH (h0Q h x) x 3) (x + 107) 1 = nI 0 := by
    unfold frH h0Q
    rw [hI_sI, if_neg (by omega), hI_sI, if_neg (by omega), hI_sI, if_neg (by omega), hI_sI, if_neg (by omega), hI_sI, if_neg (by omega), hI_sI, if_neg (by omega), hI_sI, if_neg (by omega), hI_sI, if_neg (by omega), hI_sI, if_neg (by omega), hI_sI, if_pos ⟨rfl, rfl⟩]
  unfold AnM
  rw [st]
  generalize frH (h0Q h x) x 3 = hs at *
  have good := pAsk_good (tp := tp) (n := tl) (σ := (sk tp tl 0, false))
  revert ap good
  cases pAsk tp tl (sk tp tl 0, false) with
  | none => intro _ _; exact trivial
  | some rr =>
    cases rr with
    | inl e =>
      rintro ⟨k, h1, e1, e5, e6, ⟨e7, e8⟩, qx⟩ -
      have T1 : MS h1 (x + 107) := T.of (qx.1.trans G0.1) (qx.2.1.trans G0.2.1)
      have G1 := G0.trans qx.mg
      have G2 : MG x h (sI (sI h1 (x + 107) 7 (nI e.1)) (x + 107) 8 (nI e.2)) := (G1.trans (MG.s (by unfold MC; omega))).trans (MG.s (by unfold MC; omega))
      refine ⟨sI (sI h1 (x + 107) 7 (nI e.1)) (x + 107) 8 (nI e.2), ?_, Q.mg G2 ?_ ?_ ?_, G2.fm⟩
      · rw [e1]
        unfold f_X12_ask_133
        dsimp only [nm]
        have v6 : hI (sI h1 (x + 107) 7 (nI e.1)) (x + 107) 6 = nI e.2 := by rw [hI_sI, if_neg (by omega)]; exact e6
        have v5 : hI (sI (sI h1 (x + 107) 7 (nI e.1)) (x + 107) 8 (nI e.2)) (x + 107) 5 = nI e.1 := by rw [hI_sI, if_neg (by omega), hI_sI, if_neg (by omega)]; exact e5
        rw [ko_t T1.k, e5, v6, v5, if_neg (show ¬ nI e.1 = (0 : Int32) from nI_q (b := 0) (by omega) (by omega) (by omega))]
      · rw [hI_sI, if_neg (by omega), hI_sI, if_neg (by omega), qx.2.2.2.2.2 _ _ (by unfold QC; omega)]; exact i1
      · rw [hI_sI, if_neg (by omega), hI_sI, if_pos ⟨rfl, rfl⟩]
      · rw [hI_sI, if_pos ⟨rfl, rfl⟩]
    | inr q =>
      rintro ⟨h1, e1, e5, e6, qq, k6', qx⟩ ⟨k6, ty⟩
      have T1 : MS h1 (x + 107) := T.of (qx.1.trans G0.1) (qx.2.1.trans G0.2.1)
      have G1 := G0.trans qx.mg
      obtain ⟨h2, hh2⟩ : ∃ h2, h2 = sI (sI h1 (x + 107) 7 (nI 0)) (x + 107) 8 (-nI 1) := ⟨_, rfl⟩
      have G2 : MG x h h2 := by rw [hh2]; exact (G1.trans (MG.s (by unfold MC; omega))).trans (MG.s (by unfold MC; omega))
      obtain ⟨w, hw⟩ : ∃ w : Int64, w = vL (qaR q.1 (vlQ M N q.2) 0) := ⟨_, rfl⟩
      obtain ⟨h3, hh3⟩ : ∃ h3, h3 = sI (sL h2 (x + 107) 99 w) (x + 107) 100 1 := ⟨_, rfl⟩
      have G3 : MG x h h3 := by rw [hh3]; exact (G2.trans MG.l).trans (MG.s (by unfold MC; omega))
      have i3 : ∀ b j, ¬ (b = x + 107 ∧ (j = 7 ∨ j = 8 ∨ j = 100)) → hI h3 b j = hI h1 b j := by
        intro b j z
        rw [hh3, hI_sI, if_neg (by omega)]
        show hI h2 b j = _
        rw [hh2, hI_sI, if_neg (by omega), hI_sI, if_neg (by omega)]
      have P3 : MP h3 x M N := ⟨T.of G3.1 G3.2.1, by rw [G3.2.2.2.2.1 _ _ (by unfold MC; omega)]; exact Q.2.2.1.2.1, by rw [G3.2.2.2.2.1 _ _ (by unfold MC; omega), i45, hr], fun j hj => by rw [G3.2.2.2.2.1 _ _ (by unfold MC; omega)]; exact Q.2.2.2.1 j hj⟩
      have D3 : CDm h3 x q.2 := ⟨(i3 _ _ (by omega)).trans qq.2.1.1, fun i hi => (i3 _ _ (by omega)).trans (qq.2.1.2 i hi)⟩
      have ql : q.2.length ≤ 1650 := qq.2.2.2.2.2.2.1
      have hv : ∀ i, i < 16 → OV (decide (q.1 < 3)) (vlQ M N q.2 i) := fun i hi => by
        obtain ⟨-, -, o, -⟩ := m_told0 P3 okn okb.1 okb.2.1 D3 ql ty hi
        exact o
      have l99 : hL h3 (x + 107) 99 = vL (qaR q.1 (vlQ M N q.2) 0) := by
        rw [hh3]
        show hL (sL h2 (x + 107) 99 w) (x + 107) 99 = _
        rw [hL_sL, if_pos ⟨rfl, rfl⟩, hw]
      have l100 : hI h3 (x + 107) 100 = nI (if 0 = 0 then 1 else 0) := by
        rw [hh3, hI_sI, if_pos ⟨rfl, rfl⟩]; rfl
      obtain ⟨h4, e4, F4⟩ := m_183 (κ := q.1) okn okb.1 okb.2.1 ql ty k6 (fun z => decide_eq_true z) hv 16 0 h3 FU rfl (FU_gt (by omega)) P3 D3 l99 l100
      have G4 := G3.trans F4.mg
      have j4 : ∀ j, ¬ (j = 48 ∨ j = 98 ∨ j = 100) → hI h4 (x + 107) j = hI h2 (x + 107) j := by
        intro j z
        rw [F4.2.2.2.2.1 _ _ (by omega), hh3, hI_sI, if_neg (by omega)]
        rfl
      refine ⟨h4, ?_, Q.mg G4 ?_ ?_ ?_, G4.fm⟩
      · rw [e1]
        have T2 : MS h2 (x + 107) := T.of G2.1 G2.2.1
        unfold f_X12_ask_133
        dsimp only [nm]
        have v6 : hI (sI h1 (x + 107) 7 (nI 0)) (x + 107) 6 = -nI 1 := by rw [hI_sI, if_neg (by omega)]; exact e6
        rw [ko_t T1.k, e5, v6, ← hh2]
        have e52 : hI h2 (x + 107) 5 = nI 0 := by rw [hh2, hI_sI, if_neg (by omega), hI_sI, if_neg (by omega)]; exact e5
        rw [e52, if_pos (show nI 0 = (0 : Int32) from rfl)]
        have fin : ∀ w' : Int64, w' = w → f_X12_ask_173 (x + 107) (nI q.1) (x + 107) w' h2 = some (vL (qaR q.1 (vlQ M N q.2) 16), h4) := by
          intro w' z
          unfold f_X12_ask_173
          rw [ko_t T2.k, ko_t T2.k, z, ← hh3]
          exact e4
        by_cases c2 : 2 ≤ q.1
        · rw [if_pos (show (2 : Int32) ≤ nI q.1 by rw [show (2 : Int32) = nI 2 from rfl, nI_leI (by omega) (by omega)]; exact c2)]
          refine fin _ ?_
          rw [hw]
          rcases (show q.1 = 2 ∨ q.1 = 3 ∨ q.1 = 4 ∨ q.1 = 5 by omega) with z | z | z | z <;> rw [z] <;> rfl
        · rw [if_neg (show ¬ (2 : Int32) ≤ nI q.1 by rw [show (2 : Int32) = nI 2 from rfl, nI_leI (by omega) (by omega)]; exact c2)]
          refine fin _ ?_
          rw [hw]
          rcases (show q.1 = 0 ∨ q.1 = 1 by omega) with z | z <;> rw [z] <;> rfl
      · rw [j4 _ (by omega), hh2, hI_sI, if_neg (by omega), hI_sI, if_neg (by omega), qx.2.2.2.2.2 _ _ (by unfold QC; omega)]; exact i1
      · rw [j4 _ (by omega), hh2, hI_sI, if_neg (by omega), hI_sI, if_pos ⟨rfl, rfl⟩]
      · rw [j4 _ (by omega), hh2, hI_sI, if_pos ⟨rfl, rfl⟩]
theorem Ok.t0 {u p : Int32} (O : Ok (r, tl, tp, rf, ft, fp, sd) (M, mem, sh, ns, kd, cd) N (sl, nx, c, cr) (rn, rw_) (on_, ob)) : Ok (r, 0, tp, rf, u, p, sd) (M, mem, sh, ns, kd, cd) N (sl, nx, c, cr) (rn, rw_) (on_, ob) := ⟨⟨Nat.zero_le _, O.1.2⟩, O.2⟩
theorem S_ask (C : CX h x (r, tl, tp, rf, ft, fp, sd) (M, mem, sh, ns, kd, cd) N (sl, nx, c, cr) (rn, rw_) (on_, ob)) (Q : CM h (x + 107) (r, tl, tp, rf, ft, fp, sd) (M, mem, sh, ns, kd, cd) N (sl, nx, c, cr) (rn, rw_) (on_, ob)) (O : Ok (r, tl, tp, rf, ft, fp, sd) (M, mem, sh, ns, kd, cd) N (sl, nx, c, cr) (rn, rw_) (on_, ob)) : SM Int64 x h (f_X11_ask x) (f_X12_ask (x + 107)) := by
  have S := C.1
  have T := Q.1
  by_cases hr : r = 1
  · have ca := c_askQ C O hr
    have ma : ∀ g, CM g (x + 107) (r, tl, tp, rf, ft, fp, sd) (M, mem, sh, ns, kd, cd) N (sl, nx, c, cr) (rn, rw_) (on_, ob) → AnM x (r, tl, tp, rf, ft, fp, sd) (M, mem, sh, ns, kd, cd) N (sl, nx, c, cr) (rn, rw_) (on_, ob) g (pAsk tp tl (sk tp tl 0, false)) := fun g Qg => m_askQ Qg O hr
    have good := pAsk_good (tp := tp) (n := tl) (σ := (sk tp tl 0, false))
    revert ca ma good
    cases pAsk tp tl (sk tp tl 0, false) with
    | none => intro _ _ z; exact z.elim
    | some rr =>
      cases rr with
      | inl e =>
        intro ca ma _
        exact glue Q ca ma (Ok.t0 O)
      | inr q =>
        intro ca ma _
        exact glue Q ca ma (Ok.t0 O)
  · have hr0 : r = 0 := by
      rcases O.2.2.2 with z | z
      · exact z.1
      · exact absurd z.1 hr
    have i12 : hI h x 12 = nI r := C.2.1.1
    refine glue (A' := (r, 0, tp, rf, ft, fp, sd)) (B' := (M, mem, sh, ns, kd, cd)) (N' := N) (D' := (sl, nx, c, cr)) (E' := (rn, rw_)) (F' := (on_, ob)) (v := -1000000000000000) Q ⟨sI h x 13 0, ?_, ?_, ?_⟩ (fun h1 Q1 => ⟨sI h1 (x + 107) 1 0, ?_, ?_, ?_⟩) (Ok.t0 O)
    · unfold f_X11_ask f_X11_takeTape
      dsimp only [nm]
      have v12 : hI (sI h x 13 0) x 12 = nI 0 := by rw [hI_sI, if_neg (by omega), i12, hr0]
      rw [ko_t S.k0, ko_t S.k0, bd_s, ko_t (show hK (sI h x 13 0) x = some (.inl 10) from S.k0), v12, if_pos (show nI 0 = (0 : Int32) from rfl)]
    · refine C.upA rfl rfl rfl rfl (fun b j q => by rw [hI_sI, if_neg (by omega)]) rfl ?_
      obtain ⟨a1, a2, a3, a4, a5, a6, a7⟩ := C.2.1
      refine ⟨?_, ?_, ?_, ?_, ?_, ?_, a7⟩
      · rw [hI_sI, if_neg (by omega)]; exact a1
      · rw [hI_sI, if_pos ⟨rfl, rfl⟩]; rfl
      · intro j hj; rw [hI_sI, if_neg (by omega)]; exact a3 j hj
      · intro j hj; rw [hI_sI, if_neg (by omega)]; exact a4 j hj
      · rw [hI_sI, if_neg (by omega)]; exact a5
      · rw [hI_sI, if_neg (by omega)]; exact a6
    · intro b b1 b2
      exact ⟨rfl, fun j => ⟨by rw [hI_sI, if_neg (by omega)], rfl, rfl⟩⟩
    · have i45 : hI h1 (x + 107) 45 = nI r := Q1.2.1.1
      unfold f_X12_ask
      rw [ko_t Q1.1.k, if_pos (show hI h1 (x + 107) 45 = 0 by rw [i45, hr0]; rfl)]
    · refine Q1.upA rfl rfl (fun b j q => by rw [hI_sI, if_neg (by omega)]) (fun _ _ => rfl) ?_
      obtain ⟨a1, a2, a3, a4, a5, a6, a7⟩ := Q1.2.1
      refine ⟨?_, ?_, ?_, ?_, ?_, ?_, a7⟩
      · rw [hI_sI, if_neg (by omega)]; exact a1
      · rw [hI_sI, if_pos ⟨rfl, rfl⟩]; rfl
      · intro j hj; rw [hI_sI, if_neg (by omega)]; exact a3 j hj
      · intro j hj; rw [hI_sI, if_neg (by omega)]; exact a4 j hj
      · rw [hI_sI, if_neg (by omega)]; exact a5
      · rw [hI_sI, if_neg (by omega)]; exact a6
    · exact FM.sI (by omega) (by omega)
end Ik
