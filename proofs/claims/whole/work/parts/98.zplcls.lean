/-! THE TEXTS: the class's formulas, all in all -/
section Al
variable {x a n w u f o : Nat} {tp : Nat → Nat} {c : List Nat} {σ : tyT} {h : aH}
theorem v_part (I : IHP tp n w x a u f) (tb : ∀ j, tp j ≤ 255) (hn : n ≤ 1600) (ho : o ≤ 6) (hf : hgt 5 + 8 * (6 - o) < f + 1) (T : ST h x a tp n w u c σ) : RP tp n w x a u h c (f_X5_part (f_P f) (x + 104) (nI o) h) (pPart tp n (pD tp n w f) o σ) := by
  have hf : 1 + 8 * (6 - o) < f + 1 := hf
  have S := T.S
  have le := T.2.2.2.2.2.2
  have o1 : nI o + 1 = nI (o + 1) := nI_add o 1
  unfold f_X5_part pPart
  rw [ko_t S.k104, kr_t S.r104_2, ko_t S.k105]
  have k2 := T.1.2.1
  have kb : tkK tp n σ ≤ 4 := by unfold tkK; split <;> (try split) <;> (try split) <;> (try split) <;> omega
  by_cases z : isN tp n σ = true
  · obtain ⟨q1, q2, q3⟩ := isN_t z
    have y1 : ¬ isL (tp σ.1) = true := by
      intro z
      unfold isL at z; unfold isD at q2
      simp only [Bool.and_eq_true, decide_eq_true_eq] at z q2
      omega
    have ek : tkK tp n σ = 2 := by unfold tkK; rw [if_pos q1, if_neg y1, if_pos q2, q3, if_neg (by decide)]
    rw [k2, ek, if_pos (show nI 2 = (2 : Int32) from rfl), if_pos z]
    have vl := nv_le (tp := tp) (n := n) (σ := σ)
    rcases c_number (lo := 0) (hi := 9999) T hn (by omega) (by omega) with ⟨a1, a2, a3, a4, a5, a6⟩ | ⟨k, p, e, q⟩
    · rw [if_pos a2, bd_t (show f_X5_number (x + 104) 0 9999 h = some (nI 1, h) from a5), if_neg (show ¬ nI 1 = (0 : Int32) by decide), ko_t S.k104, kr_t T.2.2.1, kr_t S.r104_2, ko_t S.k105, ko_t T.A.k, a6]
      obtain ⟨h1, e1, t1, T1, r3, i4, cd, p1⟩ := c_addN T (q := 1000 + nv tp n σ) (v := nI (nv tp n σ)) (by omega) (Or.inr trivial) (by unfold ccI; rw [if_pos (by omega), show 1000 + nv tp n σ - 1000 = nv tp n σ by omega])
      have S1 := T1.1.1
      rw [bd_t e1, ko_t S1.k104, kr_t S1.r104_2, ko_t S1.k105]
      -- the token is passed behind its code
      have ge : rn isD tp n σ.1 ≤ n := rn_le (by omega)
      have gg := rn_gt (p := isD) q1 q2
      have ee : tkE tp n σ = rn isD tp n σ.1 := by unfold tkE; rw [if_pos q1, if_neg y1, if_pos q2]
      obtain ⟨g0, g1, g2, g3, g4⟩ := T1
      rw [ek] at g1
      rw [ee] at g3
      obtain ⟨h2, e2, T2, f2, r2, l2⟩ := c_next0 g0 tb hn ge (by omega) g1 g3
      have fI := f2.2.2.2.2.1
      have nd : (sk tp n (rn isD tp n σ.1), decide ((2 = 1 ∨ 2 = 2) ∧ sk tp n (rn isD tp n σ.1) = rn isD tp n σ.1)) = nD tp n σ := by unfold nD; simp
      rw [nd] at T2
      have o2 := (nD_ok z)
      rw [bd_t e2]
      refine rp_pre (p1.trans (px_pc f2 r2 l2)) (rp_ok ⟨T2, o2.1, by rw [r2]; exact r3, T.2.2.2.1, i4.of (fun j hj => fI _ _ (by unfold PC; omega)), ⟨by rw [fI _ _ (by unfold PC; have := T.2.2.2.1; omega)]; exact cd.1, fun i hi => by rw [fI _ _ (by unfold PC; have := T.2.2.2.1; omega)]; exact cd.2 i hi⟩, by simp; omega⟩)
    · rw [bd_t (show f_X5_number (x + 104) 0 9999 h = _ from e), if_pos (show nI 0 = (0 : Int32) from rfl)]
      rcases q with ⟨b1, b2, b3, -⟩ | ⟨b1, b2, rfl, rfl⟩ | ⟨b1, -⟩
      · exact absurd ⟨by omega, vl⟩ b3
      · rw [if_neg b2]; exact rp_fl
      · rw [z] at b1; cases b1
  · have ek : ¬ tkK tp n σ = 2 := by
      intro y
      unfold tkK at y
      by_cases c1 : σ.1 < n
      · rw [if_pos c1] at y
        by_cases c2 : isL (tp σ.1) = true
        · rw [if_pos c2] at y; split at y <;> omega
        · rw [if_neg c2] at y
          by_cases c3 : isD (tp σ.1) = true
          · rw [if_pos c3] at y
            cases q : σ.2 with
            | true => rw [q, if_pos rfl] at y; omega
            | false => unfold isN at z; simp [c1, c3, q] at z
          · rw [if_neg c3] at y; omega
      · rw [if_neg c1] at y; omega
    rw [k2, if_neg (show ¬ nI (tkK tp n σ) = (2 : Int32) from fun y => ek ((nI_eq (b := 2) (by omega) (by omega)).mp y)), if_neg z, bd_t (show f_X7_isSign (x + 105) 40 h = _ from c_isS T.1 tb (q := 40) rfl rfl (by omega))]
    by_cases z1 : isS tp n σ 40 = true
    · rw [if_pos z1, if_neg (b2i_nt z1), ko_t S.k104]
      refine rp_open (fun _ => rfl) T ho (c_nxS T tb hn rfl rfl z1) (fun h1 c6 T1 => ?_)
      rw [ko_t T1.S.k104, o1]
      obtain ⟨R, G⟩ := I 3 (o + 1) (nS tp n σ) h1 c (by omega) (by omega) (by omega) (by show 3 + _ < f; omega) T1
      refine rp_bd (fun _ => rfl) G R (fun h2 c2 σ2 T2 o2 l2 s2 => ?_)
      rw [ko_t T2.S.k104]
      exact rp_sign (q := 41) (fun _ => rfl) T2 tb hn rfl rfl (by omega) (fun h3 _ T3 => rp_ok T3)
    · rw [if_neg z1, if_pos (b2i_nf z1), ko_t S.k104, kr_t S.r104_2, ko_t S.k105, bd_t (show f_X7_isWord (x + 105) 23 h = _ from c_isW T.1 (i := 23) (by omega))]
      have go6 : isW tp n σ 23 = true ∨ isW tp n σ 24 = true → RP tp n w x a u h c (f_X5_part_116 (f_P f) (x + 104) (nI o) h) (pD tp n w f 6 o σ) := by
        intro hw
        unfold f_X5_part_116
        rw [ko_t S.k104]
        exact rp_c0 (I 6 o σ h c (by omega) ho (fun _ => hw) (by show 0 + _ < f; omega) T).1
      by_cases z2 : isW tp n σ 23 = true
      · rw [if_pos z2, if_neg (b2i_nt z2)]
        exact go6 (Or.inl z2)
      · rw [if_neg z2, if_pos (b2i_nf z2), ko_t S.k104, kr_t S.r104_2, ko_t S.k105, bd_t (show f_X7_isWord (x + 105) 24 h = _ from c_isW T.1 (i := 24) (by omega))]
        by_cases z3 : isW tp n σ 24 = true
        · rw [if_pos z3, if_neg (b2i_nt z3)]
          exact go6 (Or.inr z3)
        · rw [if_neg z3, if_pos (b2i_nf z3), ko_t S.k104]
          exact rp_c0 (I 7 o σ h c (by omega) ho (by omega) (by show 0 + _ < f; omega) T).1
/-- formulas of the class -/
theorem c_P (tb : ∀ j, tp j ≤ 255) (hn : n ≤ 1600) (hw : w < 4) : ∀ f, IHP tp n w x a u f := by
  intro f
  induction f with
  | zero => intro t o σ h c _ _ _ hf _; omega
  | succ f I =>
    intro t o σ h c ht ho h6 hf T
    refine ⟨?_, pD_good (f + 1) t o σ ht ho T.2.1 h6 hf⟩
    rcases (show t = 0 ∨ t = 1 ∨ t = 2 ∨ t = 3 ∨ t = 4 ∨ t = 5 ∨ t = 6 ∨ t = 7 by omega) with rfl | rfl | rfl | rfl | rfl | rfl | rfl | rfl
    · exact v_test I tb hn ho hf T
    · exact v_both I tb hn ho hf T
    · exact v_fact I tb hn ho hf T
    · exact v_sum I tb hn ho hf T
    · exact v_prod I tb hn ho hf T
    · exact v_part I tb hn ho hf T
    · exact v_pair I tb hn ho hf (h6 rfl) T
    · exact v_word I tb hn hw ho hf T
end Al
