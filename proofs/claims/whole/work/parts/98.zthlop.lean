/-! A MACHINE'S TEXT: the reference reads a machine -/
def LmR (x n : Nat) (r : tyF (Nat × tyB)) (h : aH) (s : Option (Int32 × aH)) : Prop := match r with
  | .inl e => ∃ h1, s = f_X12_machine_96 (x + 107) h1 ∧ BDm h1 x e ∧ RX x h h1
  | .inr q => ∃ h1 u, s = f_X12_machine_96 (x + 107) h1 ∧ MS h1 (x + 107) ∧ DFm h1 x u q.2 ∧ u ≤ n ∧ hI h1 (x + 107) 44 = nI q.1 ∧ hI h1 (x + 107) 5 = nI 0 ∧ hI h1 (x + 107) 6 = -nI 1 ∧ RX x h h1
section Hl
variable {h h1 : aH} {x n u : Nat} {tp : Nat → Nat} {σ : tyT} {e : Nat × Nat} {B : tyB}
theorem lm_pre {h0 : aH} {r : tyF (Nat × tyB)} {s : Option (Int32 × aH)} (k : LmR x n r h s) (p : RX x h0 h) : LmR x n r h0 s := by
  cases r with
  | inl y =>
    obtain ⟨h1, e1, b, q⟩ := k
    exact ⟨h1, e1, b, p.trans q⟩
  | inr y =>
    obtain ⟨h1, u, e1, S, D, ul, a1, a2, a3, q⟩ := k
    exact ⟨h1, u, e1, S, D, ul, a1, a2, a3, p.trans q⟩
theorem lp_bad (b : BDm h x e) {fu : Nat} : f_X12_machine_74 (fu + 1) (x + 107) h = f_X12_machine_96 (x + 107) h := by
  show b_X12_machine_74 (f_X12_machine_74 fu) (x + 107) h = _
  unfold b_X12_machine_74
  rw [ko_t b.1.k, b.2.1, if_neg (nI_n0 b.2.2.2.1 b.2.2.2.2)]
theorem m_loopM (tb : ∀ j, tp j ≤ 255) (hn : n ≤ 1600) : ∀ (m k fu : Nat) (h : aH) (u : Nat) (B : tyB) (σ : tyT), k + m = 40 → m + 1 < fu → okQ B → RT h x tp n σ → DFm h x u B → u ≤ σ.1 → hI h (x + 107) 44 = nI k → LmR x n (pLp tp n m k B σ) h (f_X12_machine_74 fu (x + 107) h) := by
  intro m
  induction m with
  | zero =>
    intro k fu h u B σ hk hf o T D ul e44
    obtain ⟨fu, rfl⟩ : ∃ m, fu = m + 2 := ⟨fu - 2, by omega⟩
    obtain ⟨lk, A⟩ := m_look T tb hn
    have S := T.1.1
    have q0 : QN x h (sI h (x + 107) 2 (nI σ.1)) := (qx_s (by unfold QC; omega)).qn
    have D0 := D.qn q0
    have sn := T.2.1.1
    have v44 : hI (sI h (x + 107) 2 (nI σ.1)) (x + 107) 44 = nI k := by rw [hI_sI, if_neg (by omega)]; exact e44
    generalize sI h (x + 107) 2 (nI σ.1) = h0 at *
    have S0 := A.1.1
    show LmR x n _ h (b_X12_machine_74 (f_X12_machine_74 (fu + 1)) (x + 107) h)
    unfold b_X12_machine_74 pLp
    rw [ko_t S.k, T.2.2.1, if_pos (show nI 0 = (0 : Int32) from rfl), bd_t lk]
    by_cases z : σ.1 < n
    · have b := BDm.fl (x := x) (p := σ.1) S0 (k := 5) (by omega) (by omega)
      have st : f_X12_statementTold (x + 107) h0 = some ((), flH h0 x 5 σ.1) := by
        unfold f_X12_statementTold
        dsimp only [nm]
        rw [ko_t S0.k, v44, if_pos (show nI k = (40 : Int32) by rw [show k = 40 by omega]; rfl), A.2.2.2.1, bd_t (show f_X12_fail (x + 107) 5 (nI σ.1) h0 = _ from m_fail S0 A.2.2.1 5 σ.1)]
        rfl
      rw [if_pos z, show btT tp n σ = nI (tp σ.1) from if_pos z, if_neg (nI_nm (by have := tb σ.1; omega)), ko_t S0.k, bd_t st]
      exact ⟨_, lp_bad b, b, q0.rx.trans qx_fl.qn.rx⟩
    · rw [if_neg z, show btT tp n σ = -nI 1 from if_neg z, if_pos (show (-nI 1 : Int32) = -1 from rfl)]
      exact ⟨h0, u, rfl, S0, D0, by omega, v44, A.2.2.1, A.2.2.2.2.1, q0.rx⟩
  | succ m ih =>
    intro k fu h u B σ hk hf o T D ul e44
    obtain ⟨fu, rfl⟩ : ∃ m, fu = m + 2 := ⟨fu - 2, by omega⟩
    obtain ⟨lk, A⟩ := m_look T tb hn
    have S := T.1.1
    have q0 : QN x h (sI h (x + 107) 2 (nI σ.1)) := (qx_s (by unfold QC; omega)).qn
    have D0 := D.qn q0
    have sn := T.2.1.1
    have v44 : hI (sI h (x + 107) 2 (nI σ.1)) (x + 107) 44 = nI k := by rw [hI_sI, if_neg (by omega)]; exact e44
    generalize sI h (x + 107) 2 (nI σ.1) = h0 at *
    have S0 := A.1.1
    show LmR x n _ h (b_X12_machine_74 (f_X12_machine_74 (fu + 1)) (x + 107) h)
    unfold b_X12_machine_74 pLp
    rw [ko_t S.k, T.2.2.1, if_pos (show nI 0 = (0 : Int32) from rfl), bd_t lk]
    by_cases z : σ.1 < n
    · rw [if_pos z, show btT tp n σ = nI (tp σ.1) from if_pos z, if_neg (nI_nm (by have := tb σ.1; omega)), ko_t S0.k]
      have st := m_stm A D0 ul o tb hn (k := k) (by omega) v44
      have okp : ∀ q, pEnd tp n (pStm tp n B σ) = .inr q → okQ q.1 := fun q e => pEnd_ok (fun q h => pStm_ok o h) e
      revert st okp
      cases pEnd tp n (pStm tp n B σ) with
      | inl e =>
        rintro ⟨h1, e1, b, q1⟩ -
        rw [bF_l, bd_t e1]
        exact ⟨h1, lp_bad b, b, q0.rx.trans q1⟩
      | inr q =>
        rintro ⟨h1, u1, e1, T1, D1, l1, q1, z1⟩ okp
        rw [bF_r, bd_t e1]
        exact lm_pre (ih (k + 1) (fu + 1) h1 u1 q.1 q.2 (by omega) (by omega) (okp q rfl) T1 D1 l1 z1) (q0.rx.trans q1)
    · rw [if_neg z, show btT tp n σ = -nI 1 from if_neg z, if_pos (show (-nI 1 : Int32) = -1 from rfl)]
      exact ⟨h0, u, rfl, S0, D0, by omega, v44, A.2.2.1, A.2.2.2.2.1, q0.rx⟩
/-- formulas are forgotten first -/
theorem m_47 : ∀ (d i fu : Nat) (g : aH), i + d = 3 → d < fu → MS g (x + 107) → ∃ g1, f_X12_machine_47 fu (x + 107) (nI i) g = (bd (f_X12_machineTold (x + 107) g1) fun _ h24 => ko h24 (x + 107) 11 <| f_X12_machine_74 FU (x + 107) (sI h24 (x + 107) 44 1)) ∧ (hK g1 = hK g ∧ hR g1 = hR g ∧ hL g1 = hL g ∧ hN g1 = hN g ∧ hS g1 = hS g) ∧ (∀ b j, ¬ (b = x + 107 + 31 ∧ i ≤ j ∧ j < 3) → hI g1 b j = hI g b j) ∧ ∀ w, i ≤ w → w < 3 → hI g1 (x + 107 + 31) w = -nI 1 := by
  intro d
  induction d with
  | zero =>
    intro i fu g hi hf S
    obtain ⟨fu, rfl⟩ : ∃ m, fu = m + 1 := ⟨fu - 1, by omega⟩
    have hi : i = 3 := by omega
    subst hi
    refine ⟨g, ?_, ⟨rfl, rfl, rfl, rfl, rfl⟩, fun _ _ _ => rfl, fun w h1 h2 => by omega⟩
    show b_X12_machine_47 (f_X12_machine_47 fu) (x + 107) (nI 3) g = _
    unfold b_X12_machine_47
    rw [if_pos (show (3 : Int32) ≤ nI 3 by decide), ko_t S.k]
  | succ d ih =>
    intro i fu g hi hf S
    obtain ⟨fu, rfl⟩ : ∃ m, fu = m + 1 := ⟨fu - 1, by omega⟩
    obtain ⟨g2, hg2⟩ : ∃ g2, g2 = sI g (x + 107 + 31) i (-nI 1) := ⟨_, rfl⟩
    have i2 : ∀ b j, ¬ (b = x + 107 + 31 ∧ j = i) → hI g2 b j = hI g b j := fun b j y => by rw [hg2, hI_sI, if_neg y]
    obtain ⟨g1, e1, ⟨k1, k2, k3, k4, k5⟩, f1, v1⟩ := ih (i + 1) fu g2 (by omega) (by omega) (S.of (by rw [hg2]; rfl) (by rw [hg2]; rfl))
    refine ⟨g1, ?_, ⟨k1.trans (by rw [hg2]; rfl), k2.trans (by rw [hg2]; rfl), k3.trans (by rw [hg2]; rfl), k4.trans (by rw [hg2]; rfl), k5.trans (by rw [hg2]; rfl)⟩, fun b j z => by rw [f1 b j (by omega), i2 b j (by omega)], fun w z1 z2 => ?_⟩
    · rw [← e1]
      show b_X12_machine_47 (f_X12_machine_47 fu) (x + 107) (nI i) g = _
      unfold b_X12_machine_47
      dsimp only [nm]
      rw [if_neg (show ¬ (3 : Int32) ≤ nI i by rw [show (3 : Int32) = nI 3 from rfl, nI_leI (by omega) (by omega)]; omega), ko_t S.k, kr_t S.r40, ka_t S.k40, chk_t (inb_nI (show i < 6 by omega) (by omega)), tn_nI (show i < 2 ^ 31 by omega), show nI i + 1 = nI (i + 1) from nI_k i 1, hg2]
      rfl
    · by_cases y : w = i
      · subst y
        rw [f1 _ _ (by omega), hg2, hI_sI, if_pos ⟨rfl, rfl⟩]
      · exact v1 w (by omega) z2
end Hl
section Hm
variable {h : aH} {x r tl : Nat} {tp : Nat → Nat} {rf : Nat → Int32} {ft fp : Int32} {sd : Nat} {M mem sh : Nat} {ns : Nat → List Nat} {kd : Nat → Nat} {cd : Nat → List Nat} {N : tyN} {sl : Nat → tyN} {nx c cr : Nat} {rn : Nat} {rw_ : Nat → Nat} {on_ : Nat} {ob : Nat → Nat}
/-- numbers of the reference that stay while a machine is read -/
def MRx (x : Nat) (h h1 : aH) : Prop := hK h1 = hK h ∧ hR h1 = hR h ∧ hN h1 = hN h ∧ hS h1 = hS h ∧ (∀ b j, ¬ (RC x b j ∨ b = x + 107 ∧ (j = 1 ∨ j = 3)) → hI h1 b j = hI h b j) ∧ (∀ b j, ¬ (b = x + 107 + 29 ∧ j < 4) → hL h1 b j = hL h b j) ∧ hI h1 (x + 107) 1 = nI 0
theorem m_readM (Q : CM h (x + 107) (r, tl, tp, rf, ft, fp, sd) (M, mem, sh, ns, kd, cd) N (sl, nx, c, cr) (rn, rw_) (on_, ob)) (O : Ok (r, tl, tp, rf, ft, fp, sd) (M, mem, sh, ns, kd, cd) N (sl, nx, c, cr) (rn, rw_) (on_, ob)) : ∃ hs, MRx x h hs ∧ LmR x tl (pMac tp tl) hs (f_X12_machine (x + 107) h) := by
  have S := Q.1
  have tb : ∀ j, tp j ≤ 255 := O.1.2.1
  have hl : tl ≤ 1600 := O.1.1
  have T0 := h0Q.rt Q
  have G0 := h0Q.mg (h := h) (x := x)
  have j1 : hI (h0Q h x) (x + 107) 1 = nI 0 := by
    unfold h0Q
    rw [hI_sI, if_neg (by omega), hI_sI, if_neg (by omega), hI_sI, if_neg (by omega), hI_sI, if_neg (by omega), hI_sI, if_pos ⟨rfl, rfl⟩]
  have g0 : ∀ b j, ¬ (b = x + 107 ∧ 1 ≤ j ∧ j ≤ 6) → hI (h0Q h x) b j = hI h b j := by
    intro b j z
    unfold h0Q
    rw [hI_sI, if_neg (by omega), hI_sI, if_neg (by omega), hI_sI, if_neg (by omega), hI_sI, if_neg (by omega), hI_sI, if_neg (by omega), hI_sI, if_neg (by omega)]
  have L0 : hL (h0Q h x) = hL h := rfl
  obtain ⟨g1, hg1⟩ : ∃ g1, g1 = sI (sI (h0Q h x) (x + 107) 43 (nI 0)) (x + 107 + 28) 2 (nI 0) := ⟨_, rfl⟩
  have i1 : ∀ b j, ¬ (b = x + 107 ∧ j = 43 ∨ b = x + 107 + 28 ∧ j = 2) → hI g1 b j = hI (h0Q h x) b j := fun b j y => by rw [hg1, hI_sI, if_neg (by omega), hI_sI, if_neg (by omega)]
  have S1 : MS g1 (x + 107) := S.of (by rw [hg1]; exact G0.1) (by rw [hg1]; exact G0.2.1)
  obtain ⟨g2, e2, ⟨k1, k2, k3, k4, k5⟩, f2, v2⟩ := m_47 (x := x) 3 0 FU g1 rfl (FU_gt (by omega)) S1
  have i2 : ∀ b j, ¬ (b = x + 107 ∧ j = 43 ∨ b = x + 107 + 28 ∧ j = 2 ∨ b = x + 107 + 31 ∧ j < 3) → hI g2 b j = hI (h0Q h x) b j := fun b j y => by rw [f2 b j (by omega), i1 b j (by omega)]
  have T2 : RT g2 x tp tl (sk tp tl 0, false) := T0.fr (by rw [k1, hg1]; rfl) (by rw [k2, hg1]; rfl) (fun b j y => i2 b j (by omega))
  have MR : MRx x h g2 := by
    refine ⟨by rw [k1, hg1]; rfl, by rw [k2, hg1]; rfl, by rw [k4, hg1]; rfl, by rw [k5, hg1]; rfl, fun b j z => ?_, fun b j _ => by rw [k3, hg1]; rfl, by rw [i2 _ _ (by omega)]; exact j1⟩
    unfold RC at z
    rw [i2 b j (by omega), g0 b j (by omega)]
  refine ⟨g2, MR, ?_⟩
  have st : f_X12_machine (x + 107) h = (bd (f_X12_machineTold (x + 107) g2) fun _ h24 => ko h24 (x + 107) 11 <| f_X12_machine_74 FU (x + 107) (sI h24 (x + 107) 44 1)) := by
    rw [← e2]
    unfold f_X12_machine
    rw [ko_t S.k, kr_t S.r37, ka_t S.k37, chk_t (show inb (2 : Int32) 6 = true by decide), t2_, hg1]
    rfl
  have mm := m_mem T2 tb hl (by rw [f2 _ _ (by omega), hg1, hI_sI, if_pos ⟨rfl, rfl⟩]) (fun w hw => v2 w (by omega) hw) (by rw [f2 _ _ (by omega), hg1, hI_sI, if_neg (by omega), hI_sI, if_pos ⟨rfl, rfl⟩])
  have okp : ∀ q, pEnd tp tl (pMem tp tl (sk tp tl 0, false)) = .inr q → okQ q.1 := fun q e => pEnd_ok (fun q h => pMem_ok h) e
  rw [st]
  unfold pMac
  revert mm okp
  cases pEnd tp tl (pMem tp tl (sk tp tl 0, false)) with
  | inl e =>
    rintro ⟨h1, e1, b, q1⟩ -
    have b1 : BDm (sI h1 (x + 107) 44 1) x e := b.fr rfl rfl (by rw [hI_sI, if_neg (by omega)]) (by rw [hI_sI, if_neg (by omega)])
    rw [bF_l, bd_t e1, ko_t b.1.k]
    exact ⟨_, lp_bad (fu := 9999) b1, b1, q1.trans (rx_s (by unfold RC; omega))⟩
  | inr q =>
    rintro ⟨h1, u1, e1, T1, D1, l1, q1, z1⟩ okp
    rw [bF_r, bd_t e1, ko_t T1.1.1.k]
    exact lm_pre (m_loopM tb hl 39 1 FU (sI h1 (x + 107) 44 1) u1 q.1 q.2 rfl (FU_gt (by omega)) (okp q rfl) (T1.fr rfl rfl (fun b j y => by rw [hI_sI, if_neg (by omega)])) D1.s44 l1 (by rw [hI_sI, if_pos ⟨rfl, rfl⟩]; rfl)) (q1.trans (rx_s (by unfold RC; omega)))
end Hm
