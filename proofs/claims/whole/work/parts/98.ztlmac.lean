/-! THE MACHINE CALL: the reference; both -/
section Lm
variable {h : aH} {x r tl : Nat} {tp : Nat → Nat} {rf : Nat → Int32} {ft fp : Int32} {sd : Nat} {M mem sh : Nat} {ns : Nat → List Nat} {kd : Nat → Nat} {cd : Nat → List Nat} {N : tyN} {sl : Nat → tyN} {nx c cr : Nat} {rn : Nat} {rw_ : Nat → Nat} {on_ : Nat} {ob : Nat → Nat}
/-- what the reference answers -/
def MnM (x : Nat) (A : tyA) (B : tyB) (N : tyN) (D : tyD) (E F : tyE) (h : aH) (r : tyF (Nat × tyB)) : Prop := match r with
  | .inl e => ∃ h1, f_X12_machine (x + 107) h = some (-1, h1) ∧ CM h1 (x + 107) (A.1, 0, A.2.2.1, rfN A.2.2.2.1 1, nI e.1, nI e.2, A.2.2.2.2.2.2) B N D E F ∧ FM x h h1
  | .inr q => ∃ h1, f_X12_machine (x + 107) h = some (nI q.1, h1) ∧ CM h1 (x + 107) (1, 0, A.2.2.1, A.2.2.2.1, nI 0, -nI 1, A.2.2.2.2.2.2) q.2 (stN q.2.1) (D.1, D.2.1, 0, D.2.2.2) (0, E.2) F ∧ FM x h h1
theorem m_machQ (Q : CM h (x + 107) (r, tl, tp, rf, ft, fp, sd) (M, mem, sh, ns, kd, cd) N (sl, nx, c, cr) (rn, rw_) (on_, ob)) (O : Ok (r, tl, tp, rf, ft, fp, sd) (M, mem, sh, ns, kd, cd) N (sl, nx, c, cr) (rn, rw_) (on_, ob)) : MnM x (r, tl, tp, rf, ft, fp, sd) (M, mem, sh, ns, kd, cd) N (sl, nx, c, cr) (rn, rw_) (on_, ob) h (pMac tp tl) := by
  have S := Q.1
  have hl : tl ≤ 1600 := O.1.1
  obtain ⟨hs, ⟨s1, s2, s3, s4, s5, s6, s7⟩, lm⟩ := m_readM Q O
  have good := fun q => pMac_ok (tp := tp) (n := tl) (q := q)
  revert lm good
  cases pMac tp tl with
  | inl e =>
    rintro ⟨h1, e1, b, ⟨x1, x2, x3, x4, x5, x6⟩⟩ -
    obtain ⟨h2, hh2⟩ : ∃ h2, h2 = sI (sI h1 (x + 107) 7 (nI e.1)) (x + 107) 8 (nI e.2) := ⟨_, rfl⟩
    have i2 : ∀ b j, ¬ (b = x + 107 ∧ (j = 7 ∨ j = 8)) → hI h2 b j = hI h1 b j := fun b j z => by rw [hh2, hI_sI, if_neg (by omega), hI_sI, if_neg (by omega)]
    have j2 : ∀ b j, ¬ (RC x b j ∨ b = x + 107 ∧ (j = 1 ∨ j = 3 ∨ j = 7 ∨ j = 8)) → hI h2 b j = hI h b j := by
      intro b j z
      rw [i2 b j (fun y => z (Or.inr ⟨y.1, by omega⟩)), x5 b j (fun y => z (Or.inl y)), s5 b j (fun y => z (y.elim Or.inl (fun y => Or.inr ⟨y.1, by omega⟩)))]
    have K2 : hK h2 = hK h := by rw [hh2, hK_sI, hK_sI]; exact x1.trans s1
    have R2 : hR h2 = hR h := by rw [hh2, hR_sI, hR_sI]; exact x2.trans s2
    have N2 : hN h2 = hN h := by rw [hh2, hN_sI, hN_sI]; exact x3.trans s3
    have Z2 : hS h2 = hS h := by rw [hh2, hS_sI, hS_sI]; exact x4.trans s4
    have L2 : ∀ b j, ¬ (b = x + 107 + 29 ∧ j < 4) → hL h2 b j = hL h b j := fun b j z => by rw [hh2, hL_sI, hL_sI]; exact (x6 b j z).trans (s6 b j z)
    have C2 : CM h2 (x + 107) (r, 0, tp, rf, nI e.1, nI e.2, sd) (M, mem, sh, ns, kd, cd) N (sl, nx, c, cr) (rn, rw_) (on_, ob) := by
      refine Q.upS K2 R2 (fun b j z1 z2 => j2 b j (by unfold LM at z1; unfold RC; omega)) (fun j hj => L2 _ _ (by omega)) ?_
      obtain ⟨a1, a2, a3, a4, a5, a6, a7⟩ := Q.2.1
      refine ⟨?_, ?_, fun j hj => ?_, fun k hk => ?_, ?_, ?_, ?_⟩
      · rw [j2 _ _ (by unfold RC; omega)]; exact a1
      · rw [i2 _ _ (by omega), x5 _ _ (by unfold RC; omega)]; exact s7
      · rw [j2 _ _ (by unfold RC; omega)]; exact a3 j hj
      · rw [j2 _ _ (by unfold RC; omega)]; exact a4 k hk
      · rw [hh2, hI_sI, if_neg (by omega), hI_sI, if_pos ⟨rfl, rfl⟩]
      · rw [hh2, hI_sI, if_pos ⟨rfl, rfl⟩]
      · rw [L2 _ _ (by omega)]; exact a7
    obtain ⟨C3, F3⟩ := C2.rfd (k := 1) (by omega)
    have F2 : FM x h h2 := ⟨K2, R2, N2, Z2, fun b z j => ⟨j2 b j (by unfold RC; omega), L2 b j (by omega)⟩⟩
    refine ⟨_, ?_, C3, F2.trans F3⟩
    rw [e1]
    unfold f_X12_machine_96
    dsimp only [nm]
    have v6 : hI (sI h1 (x + 107) 7 (nI e.1)) (x + 107) 6 = nI e.2 := by rw [hI_sI, if_neg (by omega)]; exact b.2.2.1
    have v5 : hI h2 (x + 107) 5 = nI e.1 := by rw [i2 _ _ (by omega)]; exact b.2.1
    rw [ko_t b.1.k, b.2.1, v6, ← hh2, v5, if_neg (nI_n0 b.2.2.2.1 b.2.2.2.2), bd_t (show f_X12_refuses (x + 107) 1 h2 = _ from m_refuses C2.1 (k := 1) (by omega))]
  | inr q =>
    rintro ⟨h1, u, e1, S1, D1, ul, e44, e5, e6, ⟨x1, x2, x3, x4, x5, x6⟩⟩ good
    obtain ⟨oq, -, -⟩ := good q rfl
    obtain ⟨h2, hh2⟩ : ∃ h2, h2 = sI (sI h1 (x + 107) 7 (nI 0)) (x + 107) 8 (-nI 1) := ⟨_, rfl⟩
    have i2 : ∀ b j, ¬ (b = x + 107 ∧ (j = 7 ∨ j = 8)) → hI h2 b j = hI h1 b j := fun b j z => by rw [hh2, hI_sI, if_neg (by omega), hI_sI, if_neg (by omega)]
    have S2 : MS h2 (x + 107) := S1.of (by rw [hh2, hK_sI, hK_sI]) (by rw [hh2, hR_sI, hR_sI])
    have D2 : DFm h2 x u q.2 := D1.fr (fun b j z => i2 b j (by omega)) (fun j => by rw [hh2, hL_sI, hL_sI])
    obtain ⟨h3, e3, ⟨k1, k2, k3, k4⟩, l3, f3, v45, v63, v58, mm, now⟩ := m_stands S2 D2 (by omega) oq
    have j2 : ∀ b j, ¬ (RC x b j ∨ b = x + 107 ∧ (j = 1 ∨ j = 3 ∨ j = 7 ∨ j = 8)) → hI h2 b j = hI h b j := by
      intro b j z
      rw [i2 b j (fun y => z (Or.inr ⟨y.1, by omega⟩)), x5 b j (fun y => z (Or.inl y)), s5 b j (fun y => z (y.elim Or.inl (fun y => Or.inr ⟨y.1, by omega⟩)))]
    have K3 : hK h3 = hK h := k1.trans (by rw [hh2, hK_sI, hK_sI]; exact x1.trans s1)
    have R3 : hR h3 = hR h := k2.trans (by rw [hh2, hR_sI, hR_sI]; exact x2.trans s2)
    have N3 : hN h3 = hN h := k3.trans (by rw [hh2, hN_sI, hN_sI]; exact x3.trans s3)
    have Z3 : hS h3 = hS h := k4.trans (by rw [hh2, hS_sI, hS_sI]; exact x4.trans s4)
    have L3 : ∀ b j, ¬ b = x + 107 + 29 → hL h3 b j = hL h b j := fun b j z => by rw [l3 b j (by omega), hh2, hL_sI, hL_sI]; exact (x6 b j (by omega)).trans (s6 b j (by omega))
    have j3 : ∀ b j, ¬ (b = x + 107 ∧ (j = 1 ∨ j = 2 ∨ j = 3 ∨ j = 4 ∨ j = 5 ∨ j = 6 ∨ j = 7 ∨ j = 8 ∨ j = 10 ∨ j = 36 ∨ j = 43 ∨ j = 44 ∨ j = 45 ∨ j = 46 ∨ j = 52 ∨ j = 53 ∨ j = 54 ∨ j = 58 ∨ j = 63 ∨ j = 92 ∨ j = 94 ∨ j = 95 ∨ j = 96) ∨ x + 107 + 28 ≤ b ∧ b < x + 107 + 35 ∨ b = x + 107 + 64 ∨ b = x + 107 + 65) → hI h3 b j = hI h b j := fun b j z => by rw [f3 b j (by omega), j2 b j (by unfold RC; omega)]
    obtain ⟨q1, ⟨a1, a2, a3, a4, a5, a6, a7⟩, q3, q4, ⟨t1, t2, t3⟩, ⟨z1, z2⟩, ⟨y1, y2⟩, q8⟩ := Q
    refine ⟨h3, ?_, ⟨S.of K3 R3, ⟨v45, ?_, fun j hj => ?_, fun k hk => ?_, ?_, ?_, ?_⟩, mm, now, ⟨v63, ?_, fun k hk j hj => ?_⟩, ⟨v58, fun j hj => absurd hj (Nat.not_lt_zero _)⟩, ⟨?_, fun j hj h4 => ?_⟩, q8.fr (fun b j z => j3 b j (by omega))⟩, ⟨K3, R3, N3, Z3, fun b z j => ⟨j3 b j (by omega), L3 b j (by omega)⟩⟩⟩
    · rw [e1]
      unfold f_X12_machine_96
      dsimp only [nm]
      have v6 : hI (sI h1 (x + 107) 7 (nI 0)) (x + 107) 6 = -nI 1 := by rw [hI_sI, if_neg (by omega)]; exact e6
      have v5 : hI h2 (x + 107) 5 = nI 0 := by rw [i2 _ _ (by omega)]; exact e5
      have S3 : MS h3 (x + 107) := S.of K3 R3
      have v44 : hI h3 (x + 107) 44 = nI q.1 := by rw [f3 _ _ (by omega), i2 _ _ (by omega)]; exact e44
      rw [ko_t S1.k, e5, v6, ← hh2, v5, if_pos (show nI 0 = (0 : Int32) from rfl), bd_t e3, ko_t S3.k, v44]
    · rw [f3 _ _ (by omega), i2 _ _ (by omega), x5 _ _ (by unfold RC; omega)]; exact s7
    · rw [j3 _ _ (by omega)]; exact a3 j hj
    · rw [j3 _ _ (by omega)]; exact a4 k hk
    · rw [f3 _ _ (by omega), hh2, hI_sI, if_neg (by omega), hI_sI, if_pos ⟨rfl, rfl⟩]
    · rw [f3 _ _ (by omega), hh2, hI_sI, if_pos ⟨rfl, rfl⟩]
    · rw [L3 _ _ (by omega)]; exact a7
    · rw [j3 _ _ (by omega)]; exact t2
    · rw [j3 _ _ (by omega)]; exact t3 k hk j hj
    · rw [j3 _ _ (by omega)]; exact y1
    · rw [j3 _ _ (by omega)]; exact y2 j hj h4
theorem S_machine (C : CX h x (r, tl, tp, rf, ft, fp, sd) (M, mem, sh, ns, kd, cd) N (sl, nx, c, cr) (rn, rw_) (on_, ob)) (Q : CM h (x + 107) (r, tl, tp, rf, ft, fp, sd) (M, mem, sh, ns, kd, cd) N (sl, nx, c, cr) (rn, rw_) (on_, ob)) (O : Ok (r, tl, tp, rf, ft, fp, sd) (M, mem, sh, ns, kd, cd) N (sl, nx, c, cr) (rn, rw_) (on_, ob)) : SM Int32 x h (f_X11_machine x) (f_X12_machine (x + 107)) := by
  have ca := c_machQ C O
  have ma : ∀ g, CM g (x + 107) (r, tl, tp, rf, ft, fp, sd) (M, mem, sh, ns, kd, cd) N (sl, nx, c, cr) (rn, rw_) (on_, ob) → MnM x (r, tl, tp, rf, ft, fp, sd) (M, mem, sh, ns, kd, cd) N (sl, nx, c, cr) (rn, rw_) (on_, ob) g (pMac tp tl) := fun g Qg => m_machQ Qg O
  have good := fun q => pMac_ok (tp := tp) (n := tl) (q := q)
  revert ca ma good
  cases pMac tp tl with
  | inl e =>
    intro ca ma _
    exact glue Q ca ma (Ok.rfd (Ok.t0 O))
  | inr q =>
    intro ca ma good
    obtain ⟨oq, -, -⟩ := good q rfl
    refine glue Q ca ma ⟨⟨Nat.zero_le _, O.1.2⟩, ⟨Nat.zero_le _, fun i hi => absurd hi (Nat.not_lt_zero _)⟩, O.2.2.1, Or.inr ⟨rfl, oq, ?_, fun i hi => absurd hi (Nat.not_lt_zero _)⟩⟩
    have := oq.2.2.1
    exact stN_ok oq.1 oq.2.1 (by omega)
end Lm
