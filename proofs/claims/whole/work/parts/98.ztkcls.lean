/-! THE MACHINE CALL: the class -/
section Kc0
variable {h h1 h2 : aH} {x a n : Nat}
theorem gf_ofM (ha : a = x + 92 ∨ a = x + 98) (f1 : FX x (PC x) (b7H (b5H (sI h x 13 0) x a) x n) h1) (r1 : hR h1 = hR (b7H (b5H (sI h x 13 0) x a) x n)) (l1 : hL h1 = hL (sI h x 13 0)) (p : PM x a h1 h2) : GF x a h h2 := by
  obtain ⟨f2, r2, l2⟩ := p
  have eI : ∀ b j, ¬ (a ≤ b ∧ b < a + 6 ∨ b = x + 104 ∨ b = x + 105) → hI h2 b j = hI (sI h x 13 0) b j := by
    intro b j z
    rw [f2.2.2.2.2.1 b j (by unfold PMc; omega), f1.2.2.2.2.1 b j (by unfold PC; omega), b75_I z]
  refine ⟨f2.1.trans (f1.1.trans rfl), f2.2.2.1.trans (f1.2.2.1.trans rfl), f2.2.2.2.1.trans (f1.2.2.2.1.trans rfl), l2.trans (l1.trans rfl), fun b j z => ?_, fun b j z => ?_, ?_⟩
  · rw [r2, r1, b75_R z]; rfl
  · rw [eI b j (by omega), hI_sI, if_neg (by omega)]
  · rw [eI _ _ (by omega), hI_sI, if_pos ⟨rfl, rfl⟩]; rfl
theorem clS_K {s : Nat} : hK (clS h s) = hK h := rfl
theorem clS_R {s : Nat} : hR (clS h s) = hR h := rfl
theorem clS_L {s : Nat} : hL (clS h s) = hL h := rfl
theorem clS_N {s : Nat} : hN (clS h s) = hN h := rfl
theorem clS_S {s : Nat} : hS (clS h s) = hS h := rfl
/-- a State as it begins -/
def bgS (h : aH) (s M : Nat) : aH := carX (sI (sI (clS h s) (s + 7 + 15) 1 (nI 1)) (s + 7 + 15) 6 (nI 7)) (s + 7 + 15) M 0 4096
theorem bgS_K {s M : Nat} : hK (bgS h s M) = hK h := by unfold bgS carX; rw [hK_sI, hK_sI, hK_sI, hK_sI, hK_sI, clS_K]
theorem bgS_R {s M : Nat} : hR (bgS h s M) = hR h := by unfold bgS carX; rw [hR_sI, hR_sI, hR_sI, hR_sI, hR_sI, clS_R]
theorem bgS_L {s M : Nat} : hL (bgS h s M) = hL h := by unfold bgS carX; rw [hL_sI, hL_sI, hL_sI, hL_sI, hL_sI, clS_L]
theorem bgS_N {s M : Nat} : hN (bgS h s M) = hN h := by unfold bgS carX; rw [hN_sI, hN_sI, hN_sI, hN_sI, hN_sI, clS_N]
theorem bgS_S {s M : Nat} : hS (bgS h s M) = hS h := by unfold bgS carX; rw [hS_sI, hS_sI, hS_sI, hS_sI, hS_sI, clS_S]
theorem bgS_o {s M b j : Nat} (z : ¬ (b = s + 7 + 15 ∧ (j = 1 ∨ j = 3 ∨ j = 4 ∨ j = 5 ∨ j = 6))) : hI (bgS h s M) b j = hI (clS h s) b j := by
  unfold bgS carX
  rw [hI_sI, if_neg (by omega), hI_sI, if_neg (by omega), hI_sI, if_neg (by omega), hI_sI, if_neg (by omega), hI_sI, if_neg (by omega)]
theorem bgS_rs {s M : Nat} : RS (bgS h s M) s (stN M) := by
  refine ⟨fun k hk => ?_, ?_, fun i hi => ?_, ?_, fun i hi => ?_, fun b hb => ?_⟩
  · by_cases c : 16 ≤ k
    · left
      refine ⟨by rw [stN_o (by omega)]; exact st0_t (by omega), ?_, Or.inl ?_⟩
      · rw [bgS_o (by omega), clS_p hk (by omega), if_neg (by omega)]
      · rw [bgS_o (by omega), clS_p hk (by omega), if_neg (by omega)]
    · right
      by_cases c15 : k = 15
      · subst c15
        show stN M 120 ≤ 1 ∧ hI (bgS h s M) (s + 7 + 15) 0 = nI 1 ∧ hI (bgS h s M) (s + 7 + 15) 1 = nI (stN M 120) ∧ hI (bgS h s M) (s + 7 + 15) 2 = nI (stN M 121) ∧ hI (bgS h s M) (s + 7 + 15) 3 = nI (stN M 122) ∧ hI (bgS h s M) (s + 7 + 15) 4 = nI (stN M 123) ∧ hI (bgS h s M) (s + 7 + 15) 5 = nI (stN M 124) ∧ hI (bgS h s M) (s + 7 + 15) 6 = nI (stN M 125) ∧ hI (bgS h s M) (s + 7 + 15) 7 = nI (stN M 126)
        rw [stN_0, stN_1, stN_2, stN_3, stN_4, stN_5, stN_o (j := 126) (by omega), st0_z (j := 126) (by omega)]
        refine ⟨by omega, ?_, ?_, ?_, ?_, ?_, ?_, ?_, ?_⟩
        · rw [bgS_o (by omega), clS_p hk (by omega), if_pos (by omega)]
        · unfold bgS carX; rw [hI_sI, if_neg (by omega), hI_sI, if_neg (by omega), hI_sI, if_neg (by omega), hI_sI, if_neg (by omega), hI_sI, if_pos ⟨rfl, rfl⟩]
        · rw [bgS_o (by omega), clS_p hk (by omega), if_neg (by omega)]
        · unfold bgS carX; rw [hI_sI, if_neg (by omega), hI_sI, if_neg (by omega), hI_sI, if_pos ⟨rfl, rfl⟩]
        · unfold bgS carX; rw [hI_sI, if_neg (by omega), hI_sI, if_pos ⟨rfl, rfl⟩]
        · unfold bgS carX; rw [hI_sI, if_pos ⟨rfl, rfl⟩]
        · unfold bgS carX; rw [hI_sI, if_neg (by omega), hI_sI, if_neg (by omega), hI_sI, if_neg (by omega), hI_sI, if_pos ⟨rfl, rfl⟩]
        · rw [bgS_o (by omega), clS_p hk (by omega), if_neg (by omega)]
      · have z : ∀ j, j < 8 → stN M (8 * k + j) = 0 := fun j hj => by rw [stN_o (by omega)]; exact st0_z (by omega)
        have v : ∀ j, 1 ≤ j → j < 8 → hI (bgS h s M) (s + 7 + k) j = nI 0 := fun j h1 h2 => by rw [bgS_o (by omega), clS_p hk h2, if_neg (by omega)]
        have z0 : stN M (8 * k) = 0 := z 0 (by omega)
        refine ⟨by rw [z0]; omega, ?_, ?_, ?_, ?_, ?_, ?_, ?_, ?_⟩
        · rw [bgS_o (by omega), clS_p hk (by omega), if_pos (by omega)]
        · rw [z0]; exact v 1 (by omega) (by omega)
        · rw [z 1 (by omega)]; exact v 2 (by omega) (by omega)
        · rw [z 2 (by omega)]; exact v 3 (by omega) (by omega)
        · rw [z 3 (by omega)]; exact v 4 (by omega) (by omega)
        · rw [z 4 (by omega)]; exact v 5 (by omega) (by omega)
        · rw [z 5 (by omega)]; exact v 6 (by omega) (by omega)
        · rw [z 6 (by omega)]; exact v 7 (by omega) (by omega)
  · rw [bgS_o (by omega), clS_6, stN_o (by omega), st0_z (by omega)]
  · rw [stN_o (by omega), st0_z (by omega)] at hi; omega
  · rw [bgS_o (by omega), clS_7, stN_o (by omega), st0_z (by omega)]
  · rw [stN_o (by omega), st0_z (by omega)] at hi; omega
  · rw [stN_o (by omega), st0_z (by omega), ← clS_m (h := h) (s := s) hb]
    unfold byP
    rw [bgS_o (by omega)]
def anH (h : aH) (x M : Nat) : aH := sI (sI (bgS (sI h x 12 (nI 1)) (x + 3) M) (x + 81) 0 (nI 0)) (x + 87) 0 (nI 0)
theorem anH_o {M b j : Nat} (z : ¬ (b = x ∧ j = 12 ∨ x + 3 ≤ b ∧ b < x + 42 ∨ b = x + 81 ∧ j = 0 ∨ b = x + 87 ∧ j = 0)) : hI (anH h x M) b j = hI h b j := by
  unfold anH
  rw [hI_sI, if_neg (by omega), hI_sI, if_neg (by omega), bgS_o (by omega), clS_o (by omega), hI_sI, if_neg (by omega)]
theorem anH_K {M : Nat} : hK (anH h x M) = hK h := by unfold anH; rw [hK_sI, hK_sI, bgS_K, hK_sI]
theorem anH_R {M : Nat} : hR (anH h x M) = hR h := by unfold anH; rw [hR_sI, hR_sI, bgS_R, hR_sI]
theorem anH_L {M : Nat} : hL (anH h x M) = hL h := by unfold anH; rw [hL_sI, hL_sI, bgS_L, hL_sI]
theorem anH_N {M : Nat} : hN (anH h x M) = hN h := by unfold anH; rw [hN_sI, hN_sI, bgS_N, hN_sI]
theorem anH_S {M : Nat} : hS (anH h x M) = hS h := by unfold anH; rw [hS_sI, hS_sI, bgS_S, hS_sI]
/-- all begins anew -/
theorem c_anew {M : Nat} (S : XS h x) (r9 : hR h x 9 = some a) (ha : a = x + 92 ∨ a = x + 98) (m2 : hI h a 2 = nI M) (h4 : 4 ≤ M) (h8 : M ≤ 8) : f_X11_beginAnew x h = some ((), anH h x M) := by
  have S1 : XS (sI h x 12 1) x := S.of rfl rfl
  have cl := s_clear S1.now
  obtain ⟨h5, hh5⟩ : ∃ h5, h5 = clS (sI h x 12 1) (x + 3) := ⟨_, rfl⟩
  rw [← hh5] at cl
  have S5 : XS h5 x := S.of (by rw [hh5, clS_K, hK_sI]) (by rw [hh5, clS_R, hR_sI])
  have A5 := S5.ma ha
  have r95 : hR h5 x 9 = some a := by rw [hh5, clS_R, hR_sI]; exact r9
  have kp := S5.now.kp (k := 15) (by omega)
  have rp := S5.now.rp (k := 15) (by omega)
  obtain ⟨h6, hh6⟩ : ∃ h6, h6 = sI (sI h5 (x + 3 + 7 + 15) 1 (nI 1)) (x + 3 + 7 + 15) 6 (nI 7) := ⟨_, rfl⟩
  have m26 : hI h6 a 2 = nI M := by rw [hh6, hI_sI, if_neg (by omega), hI_sI, if_neg (by omega), hh5, clS_o (by omega), hI_sI, if_neg (by omega)]; exact m2
  have kp6 : hK h6 (x + 3 + 7 + 15) = some (.inl 6) := by rw [hh6, hK_sI, hK_sI]; exact kp
  have ca : f_X6_carry (x + 3 + 7 + 15) (nI 0) (nI 4096) (nI M) h6 = some ((), carX h6 (x + 3 + 7 + 15) M 0 4096) := by
    have := c_carry (b := 0) (l := 4096) kp6 (by omega) h4 h8
    rw [Nat.zero_add] at this
    exact this
  obtain ⟨h7, hh7⟩ : ∃ h7, h7 = carX h6 (x + 3 + 7 + 15) M 0 4096 := ⟨_, rfl⟩
  rw [← hh7] at ca
  have S7 : XS h7 x := S.of (by rw [hh7]; unfold carX; rw [hK_sI, hK_sI, hK_sI, hh6, hK_sI, hK_sI, hh5, clS_K, hK_sI]) (by rw [hh7]; unfold carX; rw [hR_sI, hR_sI, hR_sI, hh6, hR_sI, hR_sI, hh5, clS_R, hR_sI])
  have S8 : XS (sI h7 (x + 81) 0 0) x := S7.of rfl rfl
  have e81 : f_X2_clear (x + 81) h7 = some ((), sI h7 (x + 81) 0 0) := by
    unfold f_X2_clear
    rw [ko_t S7.k81]
  have e87 : f_X8_clear (x + 87) (sI h7 (x + 81) 0 0) = some ((), sI (sI h7 (x + 81) 0 0) (x + 87) 0 0) := by
    unfold f_X8_clear
    rw [ko_t S8.k87]
  unfold f_X11_beginAnew
  rw [ko_t S.k0, kr_t S.r0_2, ko_t S.now.k, bd_t cl, ko_t S5.k0, kr_t S5.r0_2, ko_t S5.now.k, kr_t S5.now.r0, ka_t S5.now.k1, chk_t (show inb (15 : Int32) 32 = true by decide), show (15 : Int32).toNatClampNeg = 15 by decide, kr_t rp, ko_t kp, kr_t r95, ko_t A5.k]
  dsimp only [nm]
  rw [show sI (sI h5 (x + 3 + 7 + 15) 1 1) (x + 3 + 7 + 15) 6 7 = h6 from hh6.symm, m26, bd_t (show f_X6_carry (x + 3 + 7 + 15) 0 4096 (nI M) h6 = _ from ca), ko_t S7.k0, kr_t S7.r0_4, ko_t S7.k81, bd_t e81, ko_t S8.k0, kr_t S8.r0_7, ko_t S8.k87, bd_t e87, hh7, hh6, hh5]
  rfl
theorem MN.mb {u : Nat} {B : tyB} (M : MN h a u B) (hu : u ≤ 1600) : mB h a B.1 B.2.1 B.2.2.1 B.2.2.2.1 B.2.2.2.2.1 B.2.2.2.2.2 := by
  obtain ⟨m1, m2, m3, m4, m5, m6, m7⟩ := M
  refine ⟨m1, m2, m3, m4, m5, fun w hw => ?_⟩
  obtain ⟨f, f1, f2, f3, f4, f5⟩ := m6 w hw
  exact ⟨f, by omega, f2, f3, f5⟩
end Kc0
section Kc
variable {h : aH} {x r tl : Nat} {tp : Nat → Nat} {rf : Nat → Int32} {ft fp : Int32} {sd : Nat} {M mem sh : Nat} {ns : Nat → List Nat} {kd : Nat → Nat} {cd : Nat → List Nat} {N : tyN} {sl : Nat → tyN} {nx c cr : Nat} {rn : Nat} {rw_ : Nat → Nat} {on_ : Nat} {ob : Nat → Nat}
/-- what the class answers -/
def MnC (x : Nat) (A : tyA) (B : tyB) (N : tyN) (D : tyD) (E F : tyE) (h : aH) (r : tyF (Nat × tyB)) : Prop := match r with
  | .inl e => ∃ h1, f_X11_machine x h = some (-1, h1) ∧ CX h1 x (A.1, 0, A.2.2.1, rfN A.2.2.2.1 1, nI e.1, nI e.2, A.2.2.2.2.2.2) B N D E F ∧ FC x h h1
  | .inr q => ∃ h1, f_X11_machine x h = some (nI q.1, h1) ∧ CX h1 x (1, 0, A.2.2.1, A.2.2.2.1, nI 0, -nI 1, A.2.2.2.2.2.2) q.2 (stN q.2.1) (D.1, D.2.1, 0, D.2.2.2) (0, E.2) F ∧ FC x h h1
theorem pMac_ok {tp : Nat → Nat} {n : Nat} {q : Nat × tyB} (e : pMac tp n = .inr q) : okQ q.2 ∧ 1 ≤ q.1 ∧ q.1 ≤ 40 := by
  unfold pMac at e
  obtain ⟨p, e1, e⟩ := bF_inv e
  have := pLp_ok _ _ _ _ _ (pEnd_ok (fun q h => pMem_ok h) e1) e
  exact this
theorem c_machQ (C : CX h x (r, tl, tp, rf, ft, fp, sd) (M, mem, sh, ns, kd, cd) N (sl, nx, c, cr) (rn, rw_) (on_, ob)) (O : Ok (r, tl, tp, rf, ft, fp, sd) (M, mem, sh, ns, kd, cd) N (sl, nx, c, cr) (rn, rw_) (on_, ob)) : MnC x (r, tl, tp, rf, ft, fp, sd) (M, mem, sh, ns, kd, cd) N (sl, nx, c, cr) (rn, rw_) (on_, ob) h (pMac tp tl) := by
  have S := C.1
  obtain ⟨a, a', w, kb⟩ := C.2.2.1
  have kb : r = 1 → mB h a M mem sh ns kd cd := kb
  have w1 := w.1
  have ha : a = x + 92 ∨ a = x + 98 := by omega
  have ha' : a' = x + 92 ∨ a' = x + 98 := by omega
  have tb : ∀ j, tp j ≤ 255 := O.1.2.1
  have hl : tl ≤ 1600 := O.1.1
  have i13 : hI h x 13 = nI tl := C.2.1.2.1
  have hb : ∀ j, j < 1600 → hI (sI h x 13 0) (x + 1) j = (nI (tp j)).toInt8.toInt32 := fun j hj => by rw [hI_sI, if_neg (by omega)]; exact C.2.1.2.2.1 j hj
  have S0 : XS (sI h x 13 0) x := S.of rfl rfl
  obtain ⟨h1, ac, fx, r1, l1⟩ := c_readM (h := sI h x 13 0) (x := x) (a := a') (n := tl) (tp := tp) S0 ha' hb tb hl
  have tt : f_X11_takeTape x h = some (nI tl, sI h x 13 0) := by
    unfold f_X11_takeTape
    dsimp only [nm]
    rw [ko_t S.k0, i13]
  have r10 : hR (sI h x 13 0) x 10 = some a' := w.2.2
  have kf : ∀ (g : aH) (u p : Int32), XS g x → hI g (x + 104) 0 = u → hI g (x + 104) 1 = p → f_X11_keepFault x g = some ((), sI (sI g x 14 u) x 15 p) := by
    intro g u p Sg e1 e2
    unfold f_X11_keepFault
    dsimp only [nm]
    rw [ko_t Sg.k0, kr_t Sg.r0_11, ko_t Sg.k104, e1, hI_sI, if_neg (by omega), e2]
  have good := fun q => pMac_ok (tp := tp) (n := tl) (q := q)
  revert ac good
  cases pMac tp tl with
  | inl e =>
    rintro ⟨h2, e1, u0, u1, p2⟩ -
    have G := gf_ofM ha' fx r1 l1 p2
    have S2 := G.xs S
    have K : KF x (sI (sI h2 x 14 (nI e.1)) x 15 (nI e.2)) (sI (sI h2 x 14 (nI e.1)) x 15 (nI e.2)) := KF.refl x _
    obtain ⟨C4, F4⟩ := C.gf w kb G K
    have S3 := C4.1
    obtain ⟨C5, F5⟩ := C4.rfd (k := 1) (by omega)
    refine ⟨_, ?_, C5, F4.trans F5⟩
    unfold f_X11_machine
    rw [ko_t S.k0, kr_t S.r0_11, kr_t S.r0_0, bd_t tt, ko_t S0.k0, kr_t r10, ko_t S0.k104, bd_t e1, ko_t S2.k0, bd_t (kf h2 _ _ S2 u0 u1), if_pos (show nI 0 = (0 : Int32) from rfl), ko_t S3.k0, bd_t (show f_X11_refuse x 1 (sI (sI h2 x 14 (nI e.1)) x 15 (nI e.2)) = _ from c_refuse S3 (k := 1) (by omega))]
  | inr q =>
    rintro ⟨h2, u, e1, mn, un, c0, u0, u1, p2⟩ good
    obtain ⟨⟨o1, o2, -⟩, -, -⟩ := good q rfl
    have G := gf_ofM ha' fx r1 l1 p2
    have S2 := G.xs S
    obtain ⟨g1, g2, g3, g4, g5, g6, g7⟩ := G
    obtain ⟨h3, hh3⟩ : ∃ h3, h3 = sI (sI h2 x 14 (nI 0)) x 15 (-nI 1) := ⟨_, rfl⟩
    have i3 : ∀ b j, ¬ (b = x ∧ (j = 14 ∨ j = 15)) → hI h3 b j = hI h2 b j := fun b j z => by rw [hh3, hI_sI, if_neg (by omega), hI_sI, if_neg (by omega)]
    have S3 : XS h3 x := S2.of (by rw [hh3, hK_sI, hK_sI]) (by rw [hh3, hR_sI, hR_sI])
    have R3 : hR h3 = hR h2 := by rw [hh3, hR_sI, hR_sI]
    have r9 : hR h3 x 9 = some a := by rw [R3, g5 _ _ (by omega)]; exact w.2.1
    have r103 : hR h3 x 10 = some a' := by rw [R3, g5 _ _ (by omega)]; exact w.2.2
    obtain ⟨h4, hh4⟩ : ∃ h4, h4 = sR (sR h3 x 9 (some a')) x 10 (some a) := ⟨_, rfl⟩
    have i4 : ∀ b j, hI h4 b j = hI h3 b j := fun b j => by rw [hh4, hI_sR, hI_sR]
    have R4 : ∀ b j, ¬ (b = x ∧ (j = 9 ∨ j = 10)) → hR h4 b j = hR h3 b j := fun b j z => by rw [hh4, hR_sR, if_neg (by omega), hR_sR, if_neg (by omega)]
    have K4 : hK h4 = hK h := by rw [hh4, hK_sR, hK_sR, hh3, hK_sI, hK_sI]; exact g1
    have r94 : hR h4 x 9 = some a' := by rw [hh4, hR_sR, if_neg (by omega), hR_sR, if_pos ⟨rfl, rfl⟩]
    have r104 : hR h4 x 10 = some a := by rw [hh4, hR_sR, if_pos ⟨rfl, rfl⟩]
    have S4 : XS h4 x := S3.fr (fun b _ => by rw [hh4, hK_sR, hK_sR]) (fun b j _ z => R4 b j (by omega))
    have m2 : hI h4 a' 2 = nI q.2.1 := by rw [i4, i3 _ _ (by omega)]; exact mn.2.1
    have an := c_anew S4 r94 ha' m2 o1 o2
    obtain ⟨h5, hh5⟩ : ∃ h5, h5 = anH h4 x q.2.1 := ⟨_, rfl⟩
    rw [← hh5] at an
    have S5 : XS h5 x := S4.of (by rw [hh5, anH_K]) (by rw [hh5, anH_R])
    have K5 : hK h5 = hK h := by rw [hh5, anH_K]; exact K4
    have R5 : hR h5 = hR h4 := by rw [hh5, anH_R]
    have L5 : hL h5 = hL h := by rw [hh5, anH_L, hh4, hL_sR, hL_sR, hh3, hL_sI, hL_sI]; exact g4
    have N5 : hN h5 = hN h := by rw [hh5, anH_N, hh4, hN_sR, hN_sR, hh3, hN_sI, hN_sI]; exact g2
    have Z5 : hS h5 = hS h := by rw [hh5, anH_S, hh4, hS_sR, hS_sR, hh3, hS_sI, hS_sI]; exact g3
    have i5 : ∀ b j, ¬ (b = x ∧ (j = 12 ∨ j = 14 ∨ j = 15) ∨ x + 3 ≤ b ∧ b < x + 42 ∨ b = x + 81 ∧ j = 0 ∨ b = x + 87 ∧ j = 0) → hI h5 b j = hI h2 b j := fun b j z => by rw [hh5, anH_o (by omega), i4, i3 b j (by omega)]
    have j5 : ∀ b j, ¬ (b = x ∧ (j = 12 ∨ j = 13 ∨ j = 14 ∨ j = 15) ∨ x + 3 ≤ b ∧ b < x + 42 ∨ b = x + 81 ∧ j = 0 ∨ b = x + 87 ∧ j = 0 ∨ a' ≤ b ∧ b < a' + 6 ∨ b = x + 104 ∨ b = x + 105) → hI h5 b j = hI h b j := fun b j z => by rw [i5 b j (by omega), g6 b j (by omega)]
    have q5 : ∀ b j, ¬ (b = x ∧ (j = 9 ∨ j = 10) ∨ b = x + 104 ∧ j = 3 ∨ b = x + 105 ∧ j = 0) → hR h5 b j = hR h b j := fun b j z => by rw [R5, R4 b j (by omega), R3, g5 b j (by omega)]
    have mn5 : MN h5 a' u q.2 := mn.fr (fun b j b1 b2 z => i5 b j (by omega))
    obtain ⟨c1, ⟨b1, b2, b3, b4, b5, b6, b7⟩, c3, c4, c5, c6, c7, c8, c9⟩ := C
    obtain ⟨y1, y2, y3, y4, y5, y6, y7, y8, y9, y10⟩ := c5
    refine ⟨h5, ?_, ⟨S5, ⟨?_, ?_, ?_, ?_, ?_, ?_, ?_⟩, ⟨a', a, ⟨by omega, by rw [R5]; exact r94, by rw [R5]; exact r104⟩, fun _ => mn5.mb (by omega)⟩, ?_, ⟨?_, ?_, ?_, ?_, ?_, y6, y7, y8, Or.inl (Nat.zero_le _), Nat.zero_le _⟩, ⟨?_, Nat.zero_le _, fun i hi => absurd hi (Nat.not_lt_zero _)⟩, c7.fr (fun b _ _ j => j5 b j (by omega)), by rw [N5]; exact c8, by rw [Z5]; exact c9⟩, ?_⟩
    · have A5 := S5.ma ha'
      have c05 : hI h5 a' 0 = nI q.1 := by rw [i5 _ _ (by omega)]; exact c0
      have r95 : hR h5 x 9 = some a' := by rw [R5]; exact r94
      unfold f_X11_machine
      rw [ko_t S.k0, kr_t S.r0_11, kr_t S.r0_0, bd_t tt, ko_t S0.k0, kr_t r10, ko_t S0.k104, bd_t e1, ko_t S2.k0, bd_t (kf h2 _ _ S2 u0 u1), if_neg (show ¬ nI 1 = (0 : Int32) by decide), ← hh3, ko_t S3.k0, kr_t r9, kr_t r103, ← hh4, bd_t an, ko_t S5.k0, kr_t r95, ko_t A5.k, c05]
    · rw [hh5]; unfold anH; rw [hI_sI, if_neg (by omega), hI_sI, if_neg (by omega), bgS_o (by omega), clS_o (by omega), hI_sI, if_pos ⟨rfl, rfl⟩]
    · rw [i5 _ _ (by omega)]; exact g7
    · intro j hj; rw [j5 _ _ (by omega)]; exact b3 j hj
    · intro j hj; rw [j5 _ _ (by omega)]; exact b4 j hj
    · rw [hh5, anH_o (by omega), i4, hh3, hI_sI, if_neg (by omega), hI_sI, if_pos ⟨rfl, rfl⟩]
    · rw [hh5, anH_o (by omega), i4, hh3, hI_sI, if_pos ⟨rfl, rfl⟩]
    · rw [L5]; exact b7
    · rw [hh5]
      unfold anH
      exact (bgS_rs (h := sI h4 x 12 (nI 1)) (s := x + 3) (M := q.2.1)).fr (fun b _ _ j => by rw [hI_sI, if_neg (by omega), hI_sI, if_neg (by omega)])
    · rw [j5 _ _ (by omega)]; exact y1
    · rw [hh5]; unfold anH; rw [hI_sI, if_neg (by omega), hI_sI, if_pos ⟨rfl, rfl⟩]
    · intro k hk; rw [q5 _ _ (by omega)]; exact y3 k hk
    · intro k hk; exact (y4 k hk).fr (fun b _ _ => by rw [K5]) (fun b _ _ j => q5 b j (by omega))
    · intro k hk; exact (y5 k hk).fr (fun b _ _ j => j5 b j (by omega))
    · rw [hh5]; unfold anH; rw [hI_sI, if_pos ⟨rfl, rfl⟩]
    · intro b z1 z2
      exact ⟨by rw [K5], fun j => ⟨j5 b j (by omega), by rw [L5], q5 b j (by omega)⟩⟩
end Kc
