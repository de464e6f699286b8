/-! on: a pointer on the tape, the reference -/
theorem bd_t {ρ β : Type} {o : Option (ρ × aH)} {v : ρ} {h : aH} {f : ρ → aH → Option β} (e : o = some (v, h)) : bd o f = f v h := by rw [e]; rfl
section On1b
variable {h : aH} {x r tl : Nat} {tp : Nat → Nat} {rf : Nat → Int32} {ft fp : Int32} {sd : Nat} {M mem sh : Nat} {ns : Nat → List Nat} {kd : Nat → Nat} {cd : Nat → List Nat} {N : tyN} {sl : Nat → tyN} {nx c cr : Nat} {rn : Nat} {rw_ : Nat → Nat} {on_ : Nat} {ob : Nat → Nat}
theorem m_ptrT (T : MS h (x + 107)) (m1 : hI h (x + 107 + 28) 4 = nI M) (hb : ∀ j, j < 1600 → hI h (x + 107 + 1) j = nI (tp j)) (tb : ∀ j, tp j ≤ 255) (h4 : 4 ≤ M) (h8 : M ≤ 8) {a : Nat} (ha : a + 8 ≤ 1600) : (ceP M tp a → f_X12_isPointerTold (x + 107) (nI a) h = some (nI 1, h)) ∧ (¬ ceP M tp a → f_X12_isPointerTold (x + 107) (nI a) h = some (nI 0, h)) := by
  have pM := p2_le (show M ≤ 8 from h8)
  have p4 := p2_le (show 4 ≤ M from h4)
  have o1 : (1 : Int32) <<< (nI M &&& 31) = nI (2 ^ M) := one_shl (by omega)
  have hf : 2 ^ M / 2 = 2 ^ (M - 1) := by rcases M_cases h4 h8 with rfl | rfl | rfl | rfl | rfl <;> rfl
  have dv : nI (2 ^ M) / (2 : Int32) = nI (2 ^ (M - 1)) := by rw [show (2 : Int32) = nI 2 from rfl, pk_div (by omega) (by omega) (by omega), hf]
  have m13 : (13 : Int32) - nI M = nI (13 - M) := pk_sub (a := 13) (by omega)
  have lM : (tp (a + 5) + 2 ^ M - tp (a + 4)) % 2 ^ M < 2 ^ M := Nat.mod_lt _ (by omega)
  have ps : 2 ^ (M - 1) ≤ 128 := p2_le (show M - 1 ≤ 7 by omega)
  have mt := m_mantissa T
  rw [m1] at mt
  have ix : ∀ n : Nat, n ≤ 7 → (nI a + nI n).toNatClampNeg = a + n ∧ inb (nI a + nI n) 1600 = true := fun n hn => by rw [nI_add]; exact ⟨tn_nI (by omega), inb_nI (by omega) (by omega)⟩
  obtain ⟨x1, -⟩ := ix 1 (by omega)
  obtain ⟨x3, y3⟩ := ix 3 (by omega)
  obtain ⟨x4, y4⟩ := ix 4 (by omega)
  obtain ⟨x5, y5⟩ := ix 5 (by omega)
  obtain ⟨x6, y6⟩ := ix 6 (by omega)
  obtain ⟨x7, y7⟩ := ix 7 (by omega)
  have x0 : (nI a).toNatClampNeg = a := tn_nI (by omega)
  have y0 : inb (nI a) 1600 = true := inb_nI (by omega) (by omega)
  have tw : f_X12_twoAt (x + 107) (nI a + 1) h = some (nI (twT tp (a + 1)), h) := by rw [show nI a + 1 = nI (a + 1) from nI_add a 1]; exact m_two T hb (j := a + 1) (by omega)
  have bw := tw_le tb (a + 1)
  have b0 := tb a
  have b3 := tb (a + 3)
  have b4 := tb (a + 4)
  have b5 := tb (a + 5)
  have b6 := tb (a + 6)
  have b7 := tb (a + 7)
  have v0 : hI h (x + 107 + 1) (nI a).toNatClampNeg = nI (tp a) := by rw [x0]; exact hb a (by omega)
  have v3 : hI h (x + 107 + 1) (nI a + 3).toNatClampNeg = nI (tp (a + 3)) := by rw [show (nI a + 3).toNatClampNeg = a + 3 from x3]; exact hb (a + 3) (by omega)
  have v4 : hI h (x + 107 + 1) (nI a + 4).toNatClampNeg = nI (tp (a + 4)) := by rw [show (nI a + 4).toNatClampNeg = a + 4 from x4]; exact hb (a + 4) (by omega)
  have v5 : hI h (x + 107 + 1) (nI a + 5).toNatClampNeg = nI (tp (a + 5)) := by rw [show (nI a + 5).toNatClampNeg = a + 5 from x5]; exact hb (a + 5) (by omega)
  have v6 : hI h (x + 107 + 1) (nI a + 6).toNatClampNeg = nI (tp (a + 6)) := by rw [show (nI a + 6).toNatClampNeg = a + 6 from x6]; exact hb (a + 6) (by omega)
  have v7 : hI h (x + 107 + 1) (nI a + 7).toNatClampNeg = nI (tp (a + 7)) := by rw [show (nI a + 7).toNatClampNeg = a + 7 from x7]; exact hb (a + 7) (by omega)
  have mo0 := m_modulo T (hI h (x + 107 + 1) (nI a + 5).toNatClampNeg - hI h (x + 107 + 1) (nI a + 4).toNatClampNeg)
  rw [m1] at mo0
  have mo : tp (a + 4) < 2 ^ M → f_X12_modulo (x + 107) (hI h (x + 107 + 1) (nI a + 5).toNatClampNeg - hI h (x + 107 + 1) (nI a + 4).toNatClampNeg) h = some (nI ((tp (a + 5) + 2 ^ M - tp (a + 4)) % 2 ^ M), h) := fun z => by
    rw [mo0, v4, v5, md_nI h4 h8 z]
  clear mo0 hb
  unfold ceP
  generalize 2 ^ (M - 1) = P at *
  generalize 2 ^ M = W at *
  generalize twT tp (a + 1) = A at *
  generalize tp a = f0 at *
  generalize tp (a + 3) = f3 at *
  generalize tp (a + 4) = f4 at *
  generalize tp (a + 5) = f5 at *
  generalize tp (a + 6) = f6 at *
  generalize tp (a + 7) = f7 at *
  have L0 : ((1 : Int32) < nI f0) = (1 < f0) := propext (nI_ltI (a := 1) (by omega) (by omega))
  have L1 : ((4095 : Int32) < nI A) = (4095 < A) := propext (nI_ltI (a := 4095) (by omega) (by omega))
  have L2 : (nI (13 - M) < nI f3) = (13 - M < f3) := propext (nI_ltI (by omega) (by omega))
  have L6 : ((7 : Int32) < nI f6) = (7 < f6) := propext (nI_ltI (a := 7) (by omega) (by omega))
  have L7 : (nI f7 ≤ (7 : Int32)) = (f7 ≤ 7) := propext (nI_leI (b := 7) (by omega) (by omega))
  have L3 : (nI W ≤ nI f4) = (W ≤ f4) := propext (nI_leI (by omega) (by omega))
  have L4 : (nI W ≤ nI f5) = (W ≤ f5) := propext (nI_leI (by omega) (by omega))
  have L5 : ∀ D, D < W → (nI P < nI D) = (P < D) := fun D _ => propext (nI_ltI (by omega) (by omega))
  by_cases c0 : f0 ≤ 1
  · by_cases c1 : A < 4096
    · by_cases c2 : f3 ≤ 13 - M
      · by_cases c6 : f6 ≤ 7
        · by_cases c7 : f7 ≤ 7
          · by_cases c3 : f4 < W
            · by_cases c4 : f5 < W
              · have mo := mo c3
                generalize (f5 + W - f4) % W = D at *
                have L5 := L5 D lM
                by_cases c5 : D ≤ P
                · refine ⟨fun _ => ?_, fun z => absurd ⟨c0, c1, c2, c3, c4, c5, c6, c7⟩ z⟩
                  simp (disch := omega) only [f_X12_isPointerTold, f_X12_isPointerTold_95, f_X12_isPointerTold_126, f_X12_isPointerTold_127, ↓ko_t T.k, ↓bd_t mt, ↓bd_t tw, ↓bd_t mo, ↓nm, ↓kr_t T.r0, ↓ka_t T.k0, ↓chk_t y0, ↓chk_t (show inb (nI a + 3) 1600 = true from y3), ↓chk_t (show inb (nI a + 4) 1600 = true from y4), ↓chk_t (show inb (nI a + 5) 1600 = true from y5), ↓chk_t (show inb (nI a + 6) 1600 = true from y6), ↓chk_t (show inb (nI a + 7) 1600 = true from y7), o1, m13, dv, v0, v3, v4, v5, v6, v7, L0, L1, L2, L3, L4, L5, L6, L7, ↓reduceIte, le_T, le_F, lt_T, lt_F, z0_ok, z1_ok] <;> rfl
                · refine ⟨fun z => by omega, fun _ => ?_⟩
                  simp (disch := omega) only [f_X12_isPointerTold, f_X12_isPointerTold_95, f_X12_isPointerTold_126, f_X12_isPointerTold_127, ↓ko_t T.k, ↓bd_t mt, ↓bd_t tw, ↓bd_t mo, ↓nm, ↓kr_t T.r0, ↓ka_t T.k0, ↓chk_t y0, ↓chk_t (show inb (nI a + 3) 1600 = true from y3), ↓chk_t (show inb (nI a + 4) 1600 = true from y4), ↓chk_t (show inb (nI a + 5) 1600 = true from y5), ↓chk_t (show inb (nI a + 6) 1600 = true from y6), ↓chk_t (show inb (nI a + 7) 1600 = true from y7), o1, m13, dv, v0, v3, v4, v5, v6, v7, L0, L1, L2, L3, L4, L5, L6, L7, ↓reduceIte, le_T, le_F, lt_T, lt_F, z0_ok, z1_ok] <;> rfl
              · refine ⟨fun z => by omega, fun _ => ?_⟩
                simp (disch := omega) only [f_X12_isPointerTold, f_X12_isPointerTold_95, f_X12_isPointerTold_126, f_X12_isPointerTold_127, ↓ko_t T.k, ↓bd_t mt, ↓bd_t tw, ↓bd_t tw, ↓nm, ↓kr_t T.r0, ↓ka_t T.k0, ↓chk_t y0, ↓chk_t (show inb (nI a + 3) 1600 = true from y3), ↓chk_t (show inb (nI a + 4) 1600 = true from y4), ↓chk_t (show inb (nI a + 5) 1600 = true from y5), ↓chk_t (show inb (nI a + 6) 1600 = true from y6), ↓chk_t (show inb (nI a + 7) 1600 = true from y7), o1, m13, dv, v0, v3, v4, v5, v6, v7, L0, L1, L2, L3, L4, L5, L6, L7, ↓reduceIte, le_T, le_F, lt_T, lt_F, z0_ok, z1_ok] <;> rfl
            · refine ⟨fun z => by omega, fun _ => ?_⟩
              simp (disch := omega) only [f_X12_isPointerTold, f_X12_isPointerTold_95, f_X12_isPointerTold_126, f_X12_isPointerTold_127, ↓ko_t T.k, ↓bd_t mt, ↓bd_t tw, ↓bd_t tw, ↓nm, ↓kr_t T.r0, ↓ka_t T.k0, ↓chk_t y0, ↓chk_t (show inb (nI a + 3) 1600 = true from y3), ↓chk_t (show inb (nI a + 4) 1600 = true from y4), ↓chk_t (show inb (nI a + 5) 1600 = true from y5), ↓chk_t (show inb (nI a + 6) 1600 = true from y6), ↓chk_t (show inb (nI a + 7) 1600 = true from y7), o1, m13, dv, v0, v3, v4, v5, v6, v7, L0, L1, L2, L3, L4, L5, L6, L7, ↓reduceIte, le_T, le_F, lt_T, lt_F, z0_ok, z1_ok] <;> rfl
          · refine ⟨fun z => by omega, fun _ => ?_⟩
            simp (disch := omega) only [f_X12_isPointerTold, f_X12_isPointerTold_95, f_X12_isPointerTold_126, f_X12_isPointerTold_127, ↓ko_t T.k, ↓bd_t mt, ↓bd_t tw, ↓bd_t tw, ↓nm, ↓kr_t T.r0, ↓ka_t T.k0, ↓chk_t y0, ↓chk_t (show inb (nI a + 3) 1600 = true from y3), ↓chk_t (show inb (nI a + 4) 1600 = true from y4), ↓chk_t (show inb (nI a + 5) 1600 = true from y5), ↓chk_t (show inb (nI a + 6) 1600 = true from y6), ↓chk_t (show inb (nI a + 7) 1600 = true from y7), o1, m13, dv, v0, v3, v4, v5, v6, v7, L0, L1, L2, L3, L4, L5, L6, L7, ↓reduceIte, le_T, le_F, lt_T, lt_F, z0_ok, z1_ok] <;> rfl
        · refine ⟨fun z => by omega, fun _ => ?_⟩
          simp (disch := omega) only [f_X12_isPointerTold, f_X12_isPointerTold_95, f_X12_isPointerTold_126, f_X12_isPointerTold_127, ↓ko_t T.k, ↓bd_t mt, ↓bd_t tw, ↓bd_t tw, ↓nm, ↓kr_t T.r0, ↓ka_t T.k0, ↓chk_t y0, ↓chk_t (show inb (nI a + 3) 1600 = true from y3), ↓chk_t (show inb (nI a + 4) 1600 = true from y4), ↓chk_t (show inb (nI a + 5) 1600 = true from y5), ↓chk_t (show inb (nI a + 6) 1600 = true from y6), ↓chk_t (show inb (nI a + 7) 1600 = true from y7), o1, m13, dv, v0, v3, v4, v5, v6, v7, L0, L1, L2, L3, L4, L5, L6, L7, ↓reduceIte, le_T, le_F, lt_T, lt_F, z0_ok, z1_ok] <;> rfl
      · refine ⟨fun z => by omega, fun _ => ?_⟩
        simp (disch := omega) only [f_X12_isPointerTold, f_X12_isPointerTold_95, f_X12_isPointerTold_126, f_X12_isPointerTold_127, ↓ko_t T.k, ↓bd_t mt, ↓bd_t tw, ↓bd_t tw, ↓nm, ↓kr_t T.r0, ↓ka_t T.k0, ↓chk_t y0, ↓chk_t (show inb (nI a + 3) 1600 = true from y3), ↓chk_t (show inb (nI a + 4) 1600 = true from y4), ↓chk_t (show inb (nI a + 5) 1600 = true from y5), ↓chk_t (show inb (nI a + 6) 1600 = true from y6), ↓chk_t (show inb (nI a + 7) 1600 = true from y7), o1, m13, dv, v0, v3, v4, v5, v6, v7, L0, L1, L2, L3, L4, L5, L6, L7, ↓reduceIte, le_T, le_F, lt_T, lt_F, z0_ok, z1_ok] <;> rfl
    · refine ⟨fun z => by omega, fun _ => ?_⟩
      simp (disch := omega) only [f_X12_isPointerTold, f_X12_isPointerTold_95, f_X12_isPointerTold_126, f_X12_isPointerTold_127, ↓ko_t T.k, ↓bd_t mt, ↓bd_t tw, ↓bd_t tw, ↓nm, ↓kr_t T.r0, ↓ka_t T.k0, ↓chk_t y0, ↓chk_t (show inb (nI a + 3) 1600 = true from y3), ↓chk_t (show inb (nI a + 4) 1600 = true from y4), ↓chk_t (show inb (nI a + 5) 1600 = true from y5), ↓chk_t (show inb (nI a + 6) 1600 = true from y6), ↓chk_t (show inb (nI a + 7) 1600 = true from y7), o1, m13, dv, v0, v3, v4, v5, v6, v7, L0, L1, L2, L3, L4, L5, L6, L7, ↓reduceIte, le_T, le_F, lt_T, lt_F, z0_ok, z1_ok] <;> rfl
  · refine ⟨fun z => by omega, fun _ => ?_⟩
    simp (disch := omega) only [f_X12_isPointerTold, f_X12_isPointerTold_95, f_X12_isPointerTold_126, f_X12_isPointerTold_127, ↓ko_t T.k, ↓bd_t mt, ↓bd_t tw, ↓bd_t tw, ↓nm, ↓kr_t T.r0, ↓ka_t T.k0, ↓chk_t y0, ↓chk_t (show inb (nI a + 3) 1600 = true from y3), ↓chk_t (show inb (nI a + 4) 1600 = true from y4), ↓chk_t (show inb (nI a + 5) 1600 = true from y5), ↓chk_t (show inb (nI a + 6) 1600 = true from y6), ↓chk_t (show inb (nI a + 7) 1600 = true from y7), o1, m13, dv, v0, v3, v4, v5, v6, v7, L0, L1, L2, L3, L4, L5, L6, L7, ↓reduceIte, le_T, le_F, lt_T, lt_F, z0_ok, z1_ok] <;> rfl
end On1b
