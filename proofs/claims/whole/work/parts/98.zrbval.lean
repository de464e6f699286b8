/-! QUESTIONS: a pointer's value by the class -/
/-- the calculator has run -/
def KF (x : Nat) (h h1 : aH) : Prop := hK h1 = hK h ∧ hL h1 = hL h ∧ hN h1 = hN h ∧ hS h1 = hS h ∧ (∀ b j, ¬ (x + 83 ≤ b ∧ b < x + 86) → hI h1 b j = hI h b j) ∧ (∀ b j, ¬ (b = x + 83 ∧ j = 4) → hR h1 b j = hR h b j)
theorem KF.refl (x : Nat) (h : aH) : KF x h h := ⟨rfl, rfl, rfl, rfl, fun _ _ _ => rfl, fun _ _ _ => rfl⟩
theorem KF.trans {x : Nat} {h h1 h2 : aH} (p : KF x h h1) (q : KF x h1 h2) : KF x h h2 := ⟨q.1.trans p.1, q.2.1.trans p.2.1, q.2.2.1.trans p.2.2.1, q.2.2.2.1.trans p.2.2.2.1, fun b j z => (q.2.2.2.2.1 b j z).trans (p.2.2.2.2.1 b j z), fun b j z => (q.2.2.2.2.2 b j z).trans (p.2.2.2.2.2 b j z)⟩
theorem KF.xs {x : Nat} {h h1 : aH} (f : KF x h h1) (S : XS h x) : XS h1 x := S.fr (fun b _ => by rw [f.1]) (fun b j _ z => f.2.2.2.2.2 b j (by omega))
theorem KF.rs {x : Nat} {h h1 : aH} {N : tyN} (f : KF x h h1) (R : RS h (x + 3) N) : RS h1 (x + 3) N := R.fr (fun b _ _ j => f.2.2.2.2.1 b j (by omega))
/-- a question's formula in a machine -/
def QF (h : aH) (a : Nat) (l : List Nat) : Prop := l.length ≤ 1600 ∧ hI h (a + 4) 0 = nI 0 ∧ hI h (a + 5) 0 = nI l.length ∧ ∀ i, i < l.length → hI h (a + 3) i = ccI (l.getD i 0)
theorem QF.fr {x a : Nat} {h h1 : aH} {l : List Nat} (q : QF h a l) (ha : a = x + 92 ∨ a = x + 98) (f : KF x h h1) : QF h1 a l := ⟨q.1, (f.2.2.2.2.1 _ _ (by omega)).trans q.2.1, (f.2.2.2.2.1 _ _ (by omega)).trans q.2.2.1, fun i hi => (f.2.2.2.2.1 _ _ (by omega)).trans (q.2.2.2 i hi)⟩
def vlQ (M : Nat) (N : tyN) (l : List Nat) (k : Nat) : Int := (evL (fgQ M N k) (o1Q M N k) l []).headD 0
section Bv
variable {h : aH} {x r tl : Nat} {tp : Nat → Nat} {rf : Nat → Int32} {ft fp : Int32} {sd : Nat} {M mem sh : Nat} {ns : Nat → List Nat} {kd : Nat → Nat} {cd : Nat → List Nat} {N : tyN} {sl : Nat → tyN} {nx c cr : Nat} {rn : Nat} {rw_ : Nat → Nat} {on_ : Nat} {ob : Nat → Nat}
theorem c_askOf {a k : Nat} {t : Bool} {l : List Nat} (S : XS h x) (R : RS h (x + 3) N) (q : okN M mem sh N) (h4 : 4 ≤ M) (h8 : M ≤ 8) (ha : a = x + 92 ∨ a = x + 98) (F : QF h a l) (ht : tyC (alC 3) l [] = some [t]) (hk : k < 16) : ∃ h1, f_X0_askOf (x + 83) a (nI k) (nI M) h = some (vI (vlQ M N l k), h1) ∧ OV t (vlQ M N l k) ∧ KF x h h1 := by
  obtain ⟨g, hg⟩ : ∃ g, g = sR h (x + 83) 4 (some (x + 3 + 7 + k)) := ⟨_, rfl⟩
  have K0 : KF x h g := by rw [hg]; exact ⟨rfl, rfl, rfl, rfl, fun _ _ _ => rfl, fun b j z => by rw [hR_sR, if_neg z]⟩
  have S0 := K0.xs S
  have R0 := K0.rs R
  have g4 : hR g (x + 83) 4 = some (x + 3 + 7 + k) := by rw [hg, hR_sR, if_pos ⟨rfl, rfl⟩]
  have sb := c_sb S0 R0 q h4 h8 hk
  have okp := q.2.1 k (by omega)
  obtain ⟨p0, p1, p2, p3, p4, p5, p6, p7⟩ := R0.cl (show k < 32 by omega) (q.fl hk)
  obtain ⟨s, hs⟩ : ∃ s, s = sbH g x (nI M) (nI (N (8 * k + 1))) (nI (basN M (N (8 * k + 2)) (N (8 * k + 3)) (N (8 * k + 1)))) (nI (lnN M (N (8 * k + 2)) (N (8 * k + 3)) (N (8 * k + 4)))) (nI (N (8 * k + 5))) := ⟨_, rfl⟩
  rw [← hs] at sb
  have sI_ : ∀ b j, ¬ (x + 83 ≤ b ∧ b < x + 86) → hI s b j = hI g b j := by
    intro b j z
    rw [hs]; unfold sbH
    rw [hI_sI, if_neg (by omega), hI_sI, if_neg (by omega), hI_sI, if_neg (by omega), hI_sI, if_neg (by omega), hI_sI, if_neg (by omega)]
  have sR_ : hR s = hR g := by rw [hs]; rfl
  have sK_ : hK s = hK g := by rw [hs]; rfl
  have K1 : KF x g s := ⟨sK_, by rw [hs]; rfl, by rw [hs]; rfl, by rw [hs]; rfl, sI_, fun b j _ => by rw [sR_]⟩
  have S1 := K1.xs S0
  have i5 : hI s (x + 83) 5 = nI M := by rw [hs]; unfold sbH; rw [hI_sI, if_neg (by omega), hI_sI, if_neg (by omega), hI_sI, if_neg (by omega), hI_sI, if_neg (by omega), hI_sI, if_pos ⟨rfl, rfl⟩]
  have i10 : hI s (x + 84) 10 = nI (N (8 * k + 1)) := by rw [hs]; unfold sbH; rw [hI_sI, if_neg (by omega), hI_sI, if_neg (by omega), hI_sI, if_neg (by omega), hI_sI, if_pos ⟨rfl, rfl⟩]
  have i11 : hI s (x + 84) 11 = nI (basN M (N (8 * k + 2)) (N (8 * k + 3)) (N (8 * k + 1))) := by rw [hs]; unfold sbH; rw [hI_sI, if_neg (by omega), hI_sI, if_neg (by omega), hI_sI, if_pos ⟨rfl, rfl⟩]
  have i12 : hI s (x + 84) 12 = nI (lnN M (N (8 * k + 2)) (N (8 * k + 3)) (N (8 * k + 4))) := by rw [hs]; unfold sbH; rw [hI_sI, if_neg (by omega), hI_sI, if_pos ⟨rfl, rfl⟩]
  have i13 : hI s (x + 84) 13 = nI (N (8 * k + 5)) := by rw [hs]; unfold sbH; rw [hI_sI, if_pos ⟨rfl, rfl⟩]
  have r4 : hR s (x + 83) 4 = some (x + 3 + 7 + k) := by rw [sR_]; exact g4
  have w1 : hI s (x + 3 + 7 + k) 1 = nI (N (8 * k)) := (sI_ _ _ (by omega)).trans p1
  have w3 : hI s (x + 3 + 7 + k) 3 = nI (N (8 * k + 2)) := (sI_ _ _ (by omega)).trans p3
  have w7 : hI s (x + 3 + 7 + k) 7 = nI (N (8 * k + 6)) := (sI_ _ _ (by omega)).trans p7
  have kp1 := S1.now.kp (k := k) (by omega)
  clear hs sI_ sR_ sK_
  obtain ⟨u, hu⟩ : ∃ u, u = sI (sI (sI (sI s (x + 84) 14 (nI k)) (x + 84) 15 (nI (N (8 * k + 2)))) (x + 84) 3 (nI (N (8 * k + 6)))) (x + 84) 16 (nI (N (8 * k))) := ⟨_, rfl⟩
  have uI : ∀ b j, ¬ (b = x + 84 ∧ (j = 14 ∨ j = 15 ∨ j = 3 ∨ j = 16)) → hI u b j = hI s b j := by
    intro b j z
    rw [hu, hI_sI, if_neg (by omega), hI_sI, if_neg (by omega), hI_sI, if_neg (by omega), hI_sI, if_neg (by omega)]
  have K2 : KF x s u := ⟨by rw [hu]; rfl, by rw [hu]; rfl, by rw [hu]; rfl, by rw [hu]; rfl, fun b j z => uI b j (by omega), fun b j _ => by rw [hu]; rfl⟩
  have S2 := K2.xs S1
  have R2 := K2.rs (K1.rs R0)
  have F2 := ((F.fr ha K0).fr ha K1).fr ha K2
  have fl := q.fl hk
  have run : ∃ d' f' v, f_X0_work (x + 83) a (nI 0) u = some (vI v, WK u x d' f') ∧ evL (fgQ M N k) (o1Q M N k) l [] = [v] ∧ OV t v := by
    refine c_run2 S2 ha F2.1 F2.2.1 F2.2.2.1 F2.2.2.2 ht (fun c _ _ => fgQ_ok q h4 h8 hk c) (fun c v _ _ _ => o1Q_ok) (fun c z1 z2 z3 => ?_) (fun c v d f z1 z2 z3 => ?_)
    · have := alC_3 z1
      rcases (show c = 43 ∨ c = 44 ∨ c = 45 ∨ c = 46 ∨ c = 47 ∨ c = 48 ∨ c = 49 ∨ c = 50 by omega) with rfl | rfl | rfl | rfl | rfl | rfl | rfl | rfl
      · refine ⟨by decide, ?_⟩
        show hI u (x + 84) 10 = vI (N (8 * k + 1) : Int)
        rw [uI _ _ (by omega), i10, vI_n]
      · refine ⟨by decide, ?_⟩
        show hI u (x + 84) 11 = vI (basN M (N (8 * k + 2)) (N (8 * k + 3)) (N (8 * k + 1)) : Int)
        rw [uI _ _ (by omega), i11, vI_n]
      · refine ⟨by decide, ?_⟩
        show hI u (x + 84) 12 = vI (lnN M (N (8 * k + 2)) (N (8 * k + 3)) (N (8 * k + 4)) : Int)
        rw [uI _ _ (by omega), i12, vI_n]
      · refine ⟨by decide, ?_⟩
        show hI u (x + 84) 13 = vI (N (8 * k + 5) : Int)
        rw [uI _ _ (by omega), i13, vI_n]
      · refine ⟨by decide, ?_⟩
        show hI u (x + 84) 14 = vI (k : Int)
        rw [hu, hI_sI, if_neg (by omega), hI_sI, if_neg (by omega), hI_sI, if_neg (by omega), hI_sI, if_pos ⟨rfl, rfl⟩, vI_n]
      · refine ⟨by decide, ?_⟩
        show hI u (x + 84) 15 = vI (N (8 * k + 2) : Int)
        rw [hu, hI_sI, if_neg (by omega), hI_sI, if_neg (by omega), hI_sI, if_pos ⟨rfl, rfl⟩, vI_n]
      · refine ⟨by decide, ?_⟩
        show hI u (x + 84) 3 = vI (N (8 * k + 6) : Int)
        rw [hu, hI_sI, if_neg (by omega), hI_sI, if_pos ⟨rfl, rfl⟩, vI_n]
      · refine ⟨by decide, ?_⟩
        show hI u (x + 84) 16 = vI (N (8 * k) : Int)
        rw [hu, hI_sI, if_pos ⟨rfl, rfl⟩, vI_n]
    · have KW : KF x u (WK u x d f) := ⟨rfl, rfl, rfl, rfl, fun b j z => WK_o (by omega) (by omega), fun _ _ _ => rfl⟩
      have m5 : hI (WK u x d f) (x + 83) 5 = nI M := by rw [WK_o (by omega) (by omega), uI _ _ (by omega)]; exact i5
      have u4 : hR (WK u x d f) (x + 83) 4 = some (x + 3 + 7 + k) := by
        show hR u (x + 83) 4 = _
        rw [hu]; exact r4
      rcases z2 with rfl | rfl
      · exact k_from (KW.xs S2) (KW.rs R2) q h4 h8 m5 z3
      · exact k_fits (KW.xs S2) (KW.rs R2) q m5 hk u4 z3
  obtain ⟨d', f', v, e1, e2, e3⟩ := run
  have vv : vlQ M N l k = v := by unfold vlQ; rw [e2]; rfl
  rw [vv]
  have KW : KF x u (WK u x d' f') := ⟨rfl, rfl, rfl, rfl, fun b j z => WK_o (by omega) (by omega), fun _ _ _ => rfl⟩
  refine ⟨WK u x d' f', ?_, e3, ((K0.trans K1).trans K2).trans KW⟩
  have W := S.now
  have k1 : hK h (x + 4) = some (.inr (.object RX6, 32)) := W.k1
  have rp : hR h (x + 4) k = some (x + 3 + 7 + k) := W.rp (by omega)
  have n0 : ¬ nI k < (0 : Int32) := by rw [show (0 : Int32) = nI 0 from rfl, nI_ltI (by omega) (by omega)]; omega
  have n32 : nI k < Int32.ofNat 32 := by rw [show Int32.ofNat 32 = nI 32 from rfl, nI_ltI (by omega) (by omega)]; omega
  unfold f_X0_askOf
  rw [if_neg n0, ko_t S.k83, kr_t S.r83_0, ka_t k1, if_pos n32, chk_t (inb_nI (show k < 32 by omega) (by omega)), tn_nI (show k < 2 ^ 31 by omega), kr_t rp, ← hg, kr_t g4, bd_t sb, ko_t S1.k83, kr_t S1.r83_1, ka_t S1.k84]
  have fin : ∀ v16 : Int32, v16 = nI (N (8 * k)) → f_X0_askOf_90 (x + 83) a (x + 84) 16 v16 (sI (sI (sI s (x + 84) 14 (nI k)) (x + 84) 15 (nI (N (8 * k + 2)))) (x + 84) 3 (nI (N (8 * k + 6)))) = some (vI v, WK u x d' f') := by
    intro v16 hv
    unfold f_X0_askOf_90
    rw [ka_t (show hK (sI (sI (sI s (x + 84) 14 (nI k)) (x + 84) 15 (nI (N (8 * k + 2)))) (x + 84) 3 (nI (N (8 * k + 6)))) (x + 84) = some (.inr (.int, 17)) from S1.k84), chk_t (show inb 16 17 = true by decide), show ((16 : Int32).toNatClampNeg) = 16 by decide, ko_t (show hK (sI (sI (sI s (x + 84) 14 (nI k)) (x + 84) 15 (nI (N (8 * k + 2)))) (x + 84) 3 (nI (N (8 * k + 6)))) (x + 83) = some (.inl 0) from S1.k83), hv, ← hu, bd_t (show f_X0_work (x + 83) a 0 u = _ from e1)]
  rw [chk_t (show inb 14 17 = true by decide), kr_t r4, ko_t kp1, show ((14 : Int32).toNatClampNeg) = 14 by decide, show ((15 : Int32).toNatClampNeg) = 15 by decide, show ((3 : Int32).toNatClampNeg) = 3 by decide]
  dsimp only [nm]
  rw [chk_t (show inb 15 17 = true by decide), chk_t (show inb 3 17 = true by decide)]
  have v3 : hI (sI s (x + 84) 14 (nI k)) (x + 3 + 7 + k) 3 = nI (N (8 * k + 2)) := by rw [hI_sI, if_neg (by omega)]; exact w3
  rw [v3]
  have v7 : hI (sI (sI s (x + 84) 14 (nI k)) (x + 84) 15 (nI (N (8 * k + 2)))) (x + 3 + 7 + k) 7 = nI (N (8 * k + 6)) := by rw [hI_sI, if_neg (by omega), hI_sI, if_neg (by omega)]; exact w7
  rw [v7]
  have v1 : hI (sI (sI (sI s (x + 84) 14 (nI k)) (x + 84) 15 (nI (N (8 * k + 2)))) (x + 84) 3 (nI (N (8 * k + 6)))) (x + 3 + 7 + k) 1 = nI (N (8 * k)) := by rw [hI_sI, if_neg (by omega), hI_sI, if_neg (by omega), hI_sI, if_neg (by omega)]; exact w1
  rw [v1]
  rcases (show N (8 * k) = 0 ∨ N (8 * k) = 1 by omega) with z | z
  · rw [if_pos (show nI (N (8 * k)) = (0 : Int32) by rw [z]; rfl)]
    exact fin 0 (by rw [z]; rfl)
  · rw [if_neg (show ¬ nI (N (8 * k)) = (0 : Int32) by rw [z]; decide)]
    exact fin 1 (by rw [z]; rfl)
end Bv
