/-! THE TEXTS: the class's formulas, level by level -/
section Lv
variable {x a n w u f o : Nat} {tp : Nat → Nat} {c : List Nat} {σ : tyT} {h : aH}
theorem rp_c0 {p : Option (Int32 × aH)} {r : tyR} (k : RP tp n w x a u h c p r) : RP tp n w x a u h c (bd p fun v g => chk (narrow .boolean (.int v) = .int v) <| some (v, g)) r := by
  match r, k with
  | none, _ => trivial
  | some (.inl e), ⟨h1, a1, a2, a3, a4⟩ => exact ⟨h1, by rw [bd_t a1]; rfl, a2, a3, a4⟩
  | some (.inr e), ⟨h1, a1, a2, a4⟩ => exact ⟨h1, by rw [bd_t a1]; rfl, a2, a4⟩
/-- an opening, then on -/
theorem rp_open {Z K : aH → Option (Int32 × aH)} {σ' : tyT} {r : tyR} (hZ : ∀ g, Z g = some (nI 0, g)) (T : ST h x a tp n w u c σ) (ho : o ≤ 6) (nx : ∃ h1, f_X7_next (x + 105) h = some ((), h1) ∧ ST h1 x a tp n w u c σ' ∧ PX x a u h h1) (kk : ∀ h1, o < 6 → ST h1 x a tp n w u c σ' → RP tp n w x a u h1 c (K h1) r) : RP tp n w x a u h c (bd (f_X5_opening (x + 104) (nI o) h) fun v g => if v = 0 then Z g else K g) (if o < 6 then r else fl 4 σ.1) := by
  have T' : ST h x a tp n w u (c ++ []) σ := by rw [List.append_nil]; exact T
  have nx' : ∃ h1, f_X7_next (x + 105) h = some ((), h1) ∧ ST h1 x a tp n w u (c ++ []) σ' ∧ PX x a u h h1 := by rw [List.append_nil]; exact nx
  have R := c_open T' ho nx'
  by_cases z : o < 6
  · rw [if_pos z] at R ⊢
    obtain ⟨h1, a1, a2, a4⟩ := R
    rw [bd_t a1, if_neg (show ¬ nI 1 = (0 : Int32) by decide)]
    have a2 : ST h1 x a tp n w u (c ++ []) σ' := a2
    rw [List.append_nil] at a2
    exact rp_pre a4 (kk h1 z a2)
  · rw [if_neg z] at R ⊢
    obtain ⟨h1, a1, a2, a3, a4⟩ := R
    refine ⟨h1, ?_, a2, a3, a4⟩
    rw [bd_t a1, if_pos (show nI 0 = (0 : Int32) from rfl)]; exact hZ h1
/-- a closing sign, then on -/
theorem rp_sign {Z K : aH → Option (Int32 × aH)} {c1 : List Nat} {q : Nat} {r : tyR} (hZ : ∀ g, Z g = some (nI 0, g)) (T : ST h x a tp n w u (c ++ c1) σ) (tb : ∀ j, tp j ≤ 255) (hn : n ≤ 1600) (hL : isL q = false) (hD : isD q = false) (hq : q ≤ 255) (kk : ∀ h1, isS tp n σ q = true → ST h1 x a tp n w u (c ++ c1) (nS tp n σ) → RP tp n w x a u h1 c (K h1) r) : RP tp n w x a u h c (bd (f_X5_sign (x + 104) (nI q) h) fun v g => if v = 0 then Z g else K g) (if isS tp n σ q = true then r else fl 1 σ.1) := by
  have R := c_sign T tb hn hL hD hq
  by_cases z : isS tp n σ q = true
  · rw [if_pos z] at R ⊢
    obtain ⟨h1, a1, a2, a4⟩ := R
    rw [bd_t a1, if_neg (show ¬ nI 1 = (0 : Int32) by decide)]
    exact rp_pre a4 (kk h1 z a2)
  · rw [if_neg z] at R ⊢
    obtain ⟨h1, a1, a2, a3, a4⟩ := R
    refine ⟨h1, ?_, a2, a3, a4⟩
    rw [bd_t a1, if_pos (show nI 0 = (0 : Int32) from rfl)]; exact hZ h1
theorem v_test (I : IHP tp n w x a u f) (tb : ∀ j, tp j ≤ 255) (hn : n ≤ 1600) (ho : o ≤ 6) (hf : hgt 0 + 8 * (6 - o) < f + 1) (T : ST h x a tp n w u c σ) : RP tp n w x a u h c (f_X5_test (f_P f) (x + 104) (nI o) h) (pTest tp n (pD tp n w f) o σ) := by
  have hf : 6 + 8 * (6 - o) < f + 1 := hf
  have h1 : hgt 1 + 8 * (6 - o) < f := by show 5 + _ < f; omega
  unfold f_X5_test pTest
  rw [ko_t T.S.k104]
  obtain ⟨R, G⟩ := I 1 o σ h c (by omega) ho (by omega) h1 T
  exact rp_bd (fun _ => rfl) G R (fun h2 c2 σ2 T2 o2 l2 s2 => l_test I tb hn ho h1 1600 0 FU c2 σ2 h2 rfl (FU_gt (by omega)) T2)
theorem v_both (I : IHP tp n w x a u f) (tb : ∀ j, tp j ≤ 255) (hn : n ≤ 1600) (ho : o ≤ 6) (hf : hgt 1 + 8 * (6 - o) < f + 1) (T : ST h x a tp n w u c σ) : RP tp n w x a u h c (f_X5_both (f_P f) (x + 104) (nI o) h) (pBoth tp n (pD tp n w f) o σ) := by
  have hf : 5 + 8 * (6 - o) < f + 1 := hf
  have h1 : hgt 2 + 8 * (6 - o) < f := by show 4 + _ < f; omega
  unfold f_X5_both pBoth
  rw [ko_t T.S.k104]
  obtain ⟨R, G⟩ := I 2 o σ h c (by omega) ho (by omega) h1 T
  exact rp_bd (fun _ => rfl) G R (fun h2 c2 σ2 T2 o2 l2 s2 => l_both I tb hn ho h1 1600 0 FU c2 σ2 h2 rfl (FU_gt (by omega)) T2)
theorem v_sum (I : IHP tp n w x a u f) (tb : ∀ j, tp j ≤ 255) (hn : n ≤ 1600) (ho : o ≤ 6) (hf : hgt 3 + 8 * (6 - o) < f + 1) (T : ST h x a tp n w u c σ) : RP tp n w x a u h c (f_X5_sum (f_P f) (x + 104) (nI o) h) (pSum tp n (pD tp n w f) o σ) := by
  have hf : 3 + 8 * (6 - o) < f + 1 := hf
  have h1 : hgt 4 + 8 * (6 - o) < f := by show 2 + _ < f; omega
  unfold f_X5_sum pSum
  rw [ko_t T.S.k104]
  obtain ⟨R, G⟩ := I 4 o σ h c (by omega) ho (by omega) h1 T
  exact rp_bd (fun _ => rfl) G R (fun h2 c2 σ2 T2 o2 l2 s2 => lp_sum I tb hn ho h1 1600 0 FU c2 σ2 h2 rfl (FU_gt (by omega)) T2)
theorem v_prod (I : IHP tp n w x a u f) (tb : ∀ j, tp j ≤ 255) (hn : n ≤ 1600) (ho : o ≤ 6) (hf : hgt 4 + 8 * (6 - o) < f + 1) (T : ST h x a tp n w u c σ) : RP tp n w x a u h c (f_X5_product (f_P f) (x + 104) (nI o) h) (pProd tp n (pD tp n w f) o σ) := by
  have hf : 2 + 8 * (6 - o) < f + 1 := hf
  have h1 : hgt 5 + 8 * (6 - o) < f := by show 1 + _ < f; omega
  unfold f_X5_product pProd
  rw [ko_t T.S.k104]
  obtain ⟨R, G⟩ := I 5 o σ h c (by omega) ho (by omega) h1 T
  exact rp_bd (fun _ => rfl) G R (fun h2 c2 σ2 T2 o2 l2 s2 => lp_prod I tb hn ho h1 1600 0 FU c2 σ2 h2 rfl (FU_gt (by omega)) T2)
theorem v_fact (I : IHP tp n w x a u f) (tb : ∀ j, tp j ≤ 255) (hn : n ≤ 1600) (ho : o ≤ 6) (hf : hgt 2 + 8 * (6 - o) < f + 1) (T : ST h x a tp n w u c σ) : RP tp n w x a u h c (f_X5_fact (f_P f) (x + 104) (nI o) h) (pFact tp n (pD tp n w f) o σ) := by
  have hf : 4 + 8 * (6 - o) < f + 1 := hf
  have S := T.S
  have le := T.2.2.2.2.2.2
  have o1 : nI o + 1 = nI (o + 1) := nI_add o 1
  unfold f_X5_fact pFact
  rw [ko_t S.k104, kr_t S.r104_2, ko_t S.k105, bd_t (show f_X7_isWord (x + 105) 22 h = _ from c_isW T.1 (i := 22) (by omega))]
  by_cases z1 : isW tp n σ 22 = true
  · rw [if_pos z1, if_neg (b2i_nt z1), ko_t S.k104, kr_t S.r104_2, ko_t S.k105]
    obtain ⟨h1, e1, T1, p1⟩ := c_nxW T tb hn z1
    have ws := (nW_ok z1).2
    obtain ⟨h3, e3, T3, p3⟩ := c_addO T1 (q := 13) (v := 22) (by omega) hn (by decide)
    rw [bd_t e1, ko_t T1.S.k104, kr_t T1.2.2.1, ko_t T1.A.k, bd_t e3]
    exact rp_pre (p1.trans p3) (rp_ok T3)
  · rw [if_neg z1, if_pos (b2i_nf z1), ko_t S.k104, kr_t S.r104_2, ko_t S.k105, bd_t (show f_X7_isWord (x + 105) 21 h = _ from c_isW T.1 (i := 21) (by omega))]
    by_cases z2 : isW tp n σ 21 = true
    · rw [if_pos z2, if_neg (b2i_nt z2), ko_t S.k104]
      refine rp_open (fun _ => rfl) T ho (c_nxW T tb hn z2) (fun h1 c6 T1 => ?_)
      have ws := (nW_ok z2).2
      rw [ko_t T1.S.k104, o1]
      obtain ⟨R, G⟩ := I 2 (o + 1) (nW tp n σ) h1 c (by omega) (by omega) (by omega) (by show 4 + _ < f; omega) T1
      refine rp_bd (fun _ => rfl) G R (fun h2 c2 σ2 T2 o2 l2 s2 => ?_)
      obtain ⟨h3, e3, T3, p3⟩ := c_addO T2 (q := 12) (v := 21) (by simp; omega) hn (by decide)
      rw [ko_t T2.S.k104, kr_t T2.2.2.1, ko_t T2.A.k, bd_t e3]
      rw [List.append_assoc] at T3
      exact rp_pre p3 (rp_ok T3)
    · rw [if_neg z2, if_pos (b2i_nf z2), ko_t S.k104, kr_t S.r104_2, ko_t S.k105, bd_t (show f_X7_isSign (x + 105) 91 h = _ from c_isS T.1 tb (q := 91) rfl rfl (by omega))]
      by_cases z3 : isS tp n σ 91 = true
      · rw [if_pos z3, if_neg (b2i_nt z3), ko_t S.k104]
        refine rp_open (fun _ => rfl) T ho (c_nxS T tb hn rfl rfl z3) (fun h1 c6 T1 => ?_)
        rw [ko_t T1.S.k104, o1]
        obtain ⟨R, G⟩ := I 0 (o + 1) (nS tp n σ) h1 c (by omega) (by omega) (by omega) (by show 6 + _ < f; omega) T1
        refine rp_bd (fun _ => rfl) G R (fun h2 c2 σ2 T2 o2 l2 s2 => ?_)
        rw [ko_t T2.S.k104]
        exact rp_sign (q := 93) (fun _ => rfl) T2 tb hn rfl rfl (by omega) (fun h3 _ T3 => rp_ok T3)
      · rw [if_neg z3, if_pos (b2i_nf z3), ko_t S.k104]
        have F3 : hgt 3 + 8 * (6 - o) < f := by show 3 + _ < f; omega
        obtain ⟨R, G⟩ := I 3 o σ h c (by omega) ho (by omega) F3 T
        refine rp_bd (fun _ => rfl) G R (fun h2 c2 σ2 T2 o2 l2 s2 => ?_)
        have S2 := T2.S
        have cmp : ∀ (s q : Nat), isS tp n σ2 s = true → isL s = false → isD s = false → -1 - nI s = ccI q → RP tp n w x a u h2 c (f_X5_fact_177 (f_P f) (x + 104) (nI o) h2) (pCmp tp n (pD tp n w f) o c2 σ2 q) := by
          intro s q z hL hD hv
          have v5 : hI h2 (x + 105) 5 = nI s := sgV T2 z hL hD
          obtain ⟨h3, e3, T3, p3⟩ := c_nxS T2 tb hn hL hD z
          have ws := (nS_ok z).2
          have le2 := T2.2.2.2.2.2.2
          unfold f_X5_fact_177 pCmp
          rw [ko_t S2.k104, kr_t S2.r104_2, ko_t S2.k105, v5]
          simp only [nm]
          rw [bd_t e3, ko_t T3.S.k104]
          refine rp_pre p3 ?_
          obtain ⟨R, G⟩ := I 3 o (nS tp n σ2) h3 (c ++ c2) (by omega) ho (by omega) F3 T3
          refine rp_bd (fun _ => rfl) G R (fun h4 c4 σ4 T4 o4 l4 s4 => ?_)
          obtain ⟨h5, e5, T5, p5⟩ := c_addO T4 (q := q) (v := nI s) (by simp at le2 ⊢; omega) hn hv
          rw [ko_t T4.S.k104, kr_t T4.2.2.1, ko_t T4.A.k, bd_t e5]
          rw [ap3] at T5
          exact rp_pre p5 (rp_ok T5)
        rw [ko_t S2.k104, kr_t S2.r104_2, ko_t S2.k105, bd_t (show f_X7_isSign (x + 105) 60 h2 = _ from c_isS T2.1 tb (q := 60) rfl rfl (by omega))]
        by_cases y1 : isS tp n σ2 60 = true
        · rw [if_pos y1, if_neg (b2i_nt y1)]
          exact cmp 60 7 y1 rfl rfl (by decide)
        · rw [if_neg y1, if_pos (b2i_nf y1), ko_t S2.k104, kr_t S2.r104_2, ko_t S2.k105, bd_t (show f_X7_isSign (x + 105) 62 h2 = _ from c_isS T2.1 tb (q := 62) rfl rfl (by omega))]
          by_cases y2 : isS tp n σ2 62 = true
          · rw [if_pos y2, if_neg (b2i_nt y2)]
            exact cmp 62 8 y2 rfl rfl (by decide)
          · rw [if_neg y2, if_pos (b2i_nf y2), ko_t S2.k104, kr_t S2.r104_2, ko_t S2.k105, bd_t (show f_X7_isSign (x + 105) 61 h2 = _ from c_isS T2.1 tb (q := 61) rfl rfl (by omega))]
            by_cases y3 : isS tp n σ2 61 = true
            · rw [if_pos y3, if_neg (b2i_nt y3)]
              exact cmp 61 9 y3 rfl rfl (by decide)
            · rw [if_neg y3, if_pos (b2i_nf y3), ko_t S2.k104, kr_t S2.r104_2, ko_t S2.k105]
              exact rp_flT T2
theorem v_pair (I : IHP tp n w x a u f) (tb : ∀ j, tp j ≤ 255) (hn : n ≤ 1600) (ho : o ≤ 6) (hf : hgt 6 + 8 * (6 - o) < f + 1) (hw : isW tp n σ 23 = true ∨ isW tp n σ 24 = true) (T : ST h x a tp n w u c σ) : RP tp n w x a u h c (f_X5_pair (f_P f) (x + 104) (nI o) h) (pPair tp n (pD tp n w f) o σ) := by
  have hf : 0 + 8 * (6 - o) < f + 1 := hf
  have S := T.S
  have le := T.2.2.2.2.2.2
  have o1 : nI o + 1 = nI (o + 1) := nI_add o 1
  obtain ⟨m, q, m31, hm, hv, hq⟩ : ∃ m q, m < 31 ∧ isW tp n σ m = true ∧ -1 - nI m = ccI q ∧ q = (if isW tp n σ 23 = true then 5 else 6) := by
    by_cases z : isW tp n σ 23 = true
    · exact ⟨23, 5, by omega, z, by decide, by rw [if_pos z]⟩
    · exact ⟨24, 6, by omega, hw.resolve_left z, by decide, by rw [if_neg z]⟩
  obtain ⟨h1, e1, T1, p1⟩ := c_nxW T tb hn hm
  have ws := (nW_ok hm).2
  unfold f_X5_pair pPair
  rw [ko_t S.k104, kr_t S.r104_2, ko_t S.k105, (wdV T m31 hm).1, ← hq]
  simp only [nm]
  rw [bd_t e1, ko_t T1.S.k104, kr_t T1.S.r104_2, ko_t T1.S.k105, bd_t (show f_X7_isSign (x + 105) 40 h1 = _ from c_isS T1.1 tb (q := 40) rfl rfl (by omega))]
  refine rp_pre p1 ?_
  by_cases z1 : isS tp n (nW tp n σ) 40 = true
  · rw [if_pos z1, if_neg (b2i_nt z1), ko_t T1.S.k104]
    have zs := (nS_ok z1).2
    refine rp_open (fun _ => rfl) T1 ho (c_nxS T1 tb hn rfl rfl z1) (fun h2 c6 T2 => ?_)
    rw [ko_t T2.S.k104, o1]
    obtain ⟨R, G⟩ := I 3 (o + 1) (nS tp n (nW tp n σ)) h2 c (by omega) (by omega) (by omega) (by show 3 + _ < f; omega) T2
    refine rp_bd (fun _ => rfl) G R (fun h3 c3 σ3 T3 o3 l3 s3 => ?_)
    rw [ko_t T3.S.k104]
    refine rp_sign (q := 44) (fun _ => rfl) T3 tb hn rfl rfl (by omega) (fun h4 y1 T4 => ?_)
    have ys := (nS_ok y1).2
    rw [ko_t T4.S.k104]
    obtain ⟨R, G⟩ := I 3 (o + 1) (nS tp n σ3) h4 (c ++ c3) (by omega) (by omega) (by omega) (by show 3 + _ < f; omega) T4
    refine rp_bd (fun _ => rfl) G R (fun h5 c5 σ5 T5 o5 l5 s5 => ?_)
    rw [ko_t T5.S.k104]
    rw [List.append_assoc] at T5
    refine rp_sign (q := 41) (fun _ => rfl) T5 tb hn rfl rfl (by omega) (fun h6 y2 T6 => ?_)
    have yt := (nS_ok y2).2
    obtain ⟨h7, e7, T7, p7⟩ := c_addO T6 (q := q) (v := nI m) (by simp; omega) hn hv
    rw [ko_t T6.S.k104, kr_t T6.2.2.1, ko_t T6.A.k, bd_t e7]
    rw [List.append_assoc] at T7
    exact rp_pre p7 (rp_ok T7)
  · rw [if_neg z1, if_pos (b2i_nf z1), ko_t T1.S.k104, kr_t T1.S.r104_2, ko_t T1.S.k105]
    exact rp_flT T1
end Lv
