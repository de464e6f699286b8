/-! THE START: both begin alike -/
section Hb
variable {z : Nat} {g : aH}
theorem skK {a : Nat} {v : Option aK} (e : hK g a = v) : hK (mvH z g) (z + a) = v := (hK_sh a).trans e
theorem skR {a j q : Nat} (e : hR g a j = some q) : hR (mvH z g) (z + a) j = some (z + q) := by rw [hR_sh, e]; rfl
theorem SS.mv {s : Nat} (H : SS g s) : SS (mvH z g) (z + s) := by
  obtain ⟨a1, a2, a3, a4, a5, a6, a7, a8, a9, b1, b2, b3, b4, b5, b6⟩ := H
  unfold SS
  simp only [Nat.add_assoc]
  exact ⟨skK a1, skR a2, skR a3, skR a4, skR a5, skR a6, skR a7, skK a8, skK a9, skK b1, skK b2, skK b3, skK b4, fun k hk => skR (by rw [b5 k hk, Nat.add_assoc]), fun k hk => skK (by rw [← Nat.add_assoc]; exact b6 k hk)⟩
theorem XS.mv {x : Nat} (H : XS g x) : XS (mvH z g) (z + x) := by
  obtain ⟨n1, n2, H⟩ := H
  refine ⟨?_, ?_, ?_⟩
  · rw [Nat.add_assoc]; exact n1.mv
  · rw [Nat.add_assoc]; exact n2.mv
  · simp only [XS0, XS1, XS2, XS3, XS4, XS5] at H ⊢
    simp only [Nat.add_assoc, hK_sh, hR_sh, H, Option.map_some, and_self]
theorem MS.mv {m : Nat} (H : MS g m) : MS (mvH z g) (z + m) := by
  simp only [MS, MS0, MS1, MS2, MS3, MS4, MS5, MS6, MS7, MS8, MS9, MS10, MS11, MS12, MS13] at H ⊢
  simp only [Nat.add_assoc, hK_sh, hR_sh, H, Option.map_some, and_self]
theorem IV_of (Xs : XS g 0) (Ms : MS g 107) (gn : hN g = 175 ∧ hS g ≤ 60000) (gc : hI g 0 12 = nI 0 ∧ hI g 0 13 = nI 0 ∧ hI g 0 14 = nI 0 ∧ hI g 0 15 = -nI 1 ∧ hL g 0 16 = lN 1 ∧ hR g 0 9 = some 92 ∧ hR g 0 10 = some 98 ∧ hI g 81 0 = nI 0 ∧ hI g 81 1 = nI 0 ∧ hI g 87 0 = nI 0 ∧ hI g 90 1 = nI 0 ∧ hI g 3 6 = nI 0 ∧ hI g 3 7 = nI 0 ∧ (∀ k, k < 20 → hR g 82 k = none) ∧ (∀ k, k < 8 → hI g 2 k = 0)) (gp : ∀ k, k < 32 → ∀ j, j < 8 → hI g (10 + k) j = if j = 0 then nI 1 else nI 0) (gm : hI g 107 45 = nI 0 ∧ hI g 107 1 = nI 0 ∧ hI g 107 7 = nI 0 ∧ hI g 107 8 = -nI 1 ∧ hL g 107 65 = lN 1 ∧ hI g 135 3 = nI 0 ∧ hI g 135 4 = nI 0 ∧ hI g 135 5 = nI 0 ∧ (∀ w, w < 3 → hI g 138 (3 + w) = -nI 1) ∧ hI g 107 63 = nI 0 ∧ hI g 107 64 = nI 0 ∧ hI g 107 58 = nI 0 ∧ hI g 107 102 = nI 0 ∧ (∀ k, k < 8 → hI g 109 k = 0)) (gw : ∀ i, i < 25 → (∀ j, j < (WD i).length → hI g (110 + i) j = nI ((WD i).getD j 0)) ∧ (∀ j, j < (WD (askW i)).length → hI g (146 + i) j = nI ((WD (askW i)).getD j 0))) (gz : ∀ b, b = 1 ∨ b = 9 ∨ b = 108 ∨ b = 141 → ∀ j, hI g b j = 0) : IV z (mvH z g) := by
  obtain ⟨c1, c2, c3, c4, c5, c6, c7, c8, c9, d1, d2, d3, d4, d5, d6⟩ := gc
  obtain ⟨m1, m2, m3, m4, m5, m6, m7, m8, m9, n1, n2, n3, n4, n5⟩ := gm
  have I : ∀ a j, hI (mvH z g) (z + a) j = hI g a j := fun a j => hI_sh a j
  have R : ∀ a j, hR (mvH z g) (z + a) j = (hR g a j).map (fun q => z + q) := fun a j => hR_sh a j
  have I0 : ∀ j, hI (mvH z g) z j = hI g 0 j := fun j => I 0 j
  have X : XS (mvH z g) z := Xs.mv
  have T : MS (mvH z g) (z + 107) := Ms.mv
  have IM : ∀ a j, hI (mvH z g) (z + 107 + a) j = hI g (107 + a) j := fun a j => by rw [Nat.add_assoc]; exact I _ j
  have t0 : ∀ j, j < 1600 → hI g 1 j = nI 0 := fun j _ => gz _ (by omega) j
  have t1 : ∀ j, j < 1600 → hI g 108 j = nI 0 := fun j _ => gz _ (by omega) j
  have r0 : ∀ j, j < 1498 → hI g 141 j = nI 0 := fun j _ => gz _ (by omega) j
  have y0 : ∀ j, j < 256 → hI g 9 j = nI 0 := fun j _ => gz _ (by omega) j
  refine ⟨(0, 0, fun _ => 0, fun _ => 0, nI 0, -nI 1, 1), (0, 0, 0, fun _ => [], fun _ => 0, fun _ => []), fun _ => 0, (fun _ _ => 0, 0, 0, 0), (0, fun _ => 0), (0, fun _ => 0), ⟨X, ?_, ?_, ?_, ?_, ?_, ?_, ?_, ?_⟩, ⟨T, ?_, ?_, ?_, ?_, ?_, ?_, ?_⟩, ?_⟩
  · refine ⟨(I0 12).trans c1, (I0 13).trans c2, fun j hj => ?_, fun k hk => ?_, (I0 14).trans c3, (I0 15).trans c4, (hL_sh 0 16).trans c5⟩
    · rw [I 1 j, t0 j hj]; show nI 0 = (nI 0).toInt8.toInt32; decide
    · rw [I 2 k]; exact d6 k hk
  · refine ⟨z + 92, z + 98, ⟨Or.inl ⟨rfl, rfl⟩, ?_, ?_⟩, fun h => (by cases h)⟩
    · exact (R 0 9).trans (by rw [c6]; rfl)
    · exact (R 0 10).trans (by rw [c7]; rfl)
  · refine ⟨fun k hk => Or.inr ?_, ?_, fun i hi => absurd hi (Nat.not_lt_zero _), ?_, fun i hi => absurd hi (Nat.not_lt_zero _), fun b hb => ?_⟩
    · have v : ∀ j, j < 8 → hI (mvH z g) (z + 3 + 7 + k) j = if j = 0 then nI 1 else nI 0 := fun j hj => by
        rw [show z + 3 + 7 + k = z + (10 + k) by omega, I]; exact gp k hk j hj
      exact ⟨Nat.zero_le _, v 0 (by omega), v 1 (by omega), v 2 (by omega), v 3 (by omega), v 4 (by omega), v 5 (by omega), v 6 (by omega), v 7 (by omega)⟩
    · rw [I 3 6]; exact d3
    · rw [I 3 7]; exact d4
    · unfold byP
      rw [show z + 3 + 6 = z + 9 by omega, I, y0 _ (by omega)]
      have : ∀ q, q < 4 → (nI 0 >>> (nI (8 * q) &&& 31)) &&& 255 = nI 0 := by decide
      exact this (b % 4) (by omega)
  · refine ⟨(I 81 1).trans c9, (I 81 0).trans c8, fun k hk => ?_, fun k hk => absurd hk (Nat.not_lt_zero _), fun k hk => absurd hk (Nat.not_lt_zero _), by show 0 < 20; omega, Nat.le_refl _, by show 0 ≤ 20; omega, Or.inl (Nat.le_refl _), by show 0 ≤ 20; omega⟩
    rw [R 82 k, d5 k hk]
    rfl
  · exact ⟨(I 87 0).trans d1, Nat.zero_le _, fun i hi => absurd hi (Nat.not_lt_zero _)⟩
  · exact ⟨(I 90 1).trans d2, Nat.zero_le _, fun i hi => absurd hi (Nat.not_lt_zero _)⟩
  · show z + hN g = z + 175 + 39 * 0
    rw [gn.1]
  · rw [hS_sh]; exact gn.2
  · refine ⟨(I 107 45).trans m1, (I 107 1).trans m2, fun j hj => ?_, fun k hk => ?_, (I 107 7).trans m3, (I 107 8).trans m4, (hL_sh 107 65).trans m5⟩
    · rw [IM 1 j]; exact t1 j hj
    · rw [IM 2 k]; exact n5 k hk
  · refine ⟨(IM 28 3).trans m6, (IM 28 4).trans m7, (IM 28 5).trans m8, fun s hs => absurd hs (Nat.not_lt_zero _), fun s hs => absurd hs (Nat.not_lt_zero _), fun w hw => Or.inl ⟨rfl, (IM 31 (3 + w)).trans (m9 w hw)⟩⟩
  · intro j hj
    rw [IM 34 j, mN_f (N := fun _ => 0) (j := j) (by show 0 ≤ 1; omega)]
    exact r0 j hj
  · exact ⟨(I 107 63).trans n1, (I 107 64).trans n2, fun k hk => absurd hk (Nat.not_lt_zero _)⟩
  · exact ⟨(I 107 58).trans n3, fun j hj => absurd (show j < 0 from hj) (Nat.not_lt_zero _)⟩
  · exact ⟨(I 107 102).trans n4, fun j hj => absurd hj (Nat.not_lt_zero _)⟩
  · intro i hi
    obtain ⟨w1, w2⟩ := gw i hi
    refine ⟨fun j hj => ?_, fun j hj => ?_⟩
    · rw [show z + 107 + 3 + i = z + (110 + i) by omega, I]; exact w1 j hj
    · rw [show z + 107 + 39 + i = z + (146 + i) by omega, I]; exact w2 j hj
  · exact ⟨⟨Nat.zero_le _, fun _ => Nat.zero_le _, by show 1 < 2 ^ 31; omega⟩, ⟨Nat.zero_le _, fun i hi => absurd hi (Nat.not_lt_zero _)⟩, ⟨Nat.zero_le _, fun _ => Nat.zero_le _⟩, Or.inl ⟨rfl, rfl, rfl, rfl, rfl, rfl, rfl⟩⟩
theorem IV_0 : IV z (mvH z g2H) := IV_of g2H_xs g2H_ms g2H_n g2H_c g2H_p g2H_m g2H_w (fun b hb j => g2H_z hb j)
end Hb
theorem law_pure (z L : Nat) (xs : Nat → Int32) (hL : L ≤ 3072) : ∃ h', f_L_law L xs ((fun _ => none, fun _ _ => 0, fun _ _ => 0, fun _ _ => none, z, 0) : aH) = some (1, h') ∧ 0 + (hN h' - z) ≤ room_1.cells ∧ 0 + (hS h' - 0) ≤ room_1.slots := by
  obtain ⟨h2, e2, iv⟩ := law_loop (z := z) (xs := xs) hL L 0 FU (mvH z g2H) (by omega) (by omega) (FU_gt (by omega)) IV_0
  refine ⟨h2, ?_, ?_, ?_⟩
  · rw [h00_sh]
    unfold f_L_law
    dsimp only [nm]
    rw [hN_sh, nw_sh, e_X11_init, show hN g00 = 0 from rfl, g1H_e, mp_some, bd_s, hN_sh, nw_sh, e_X12_init, g1H_n, g2H_e, mp_some, bd_s]
    exact e2
  · obtain ⟨A, B, N, D, E, F, C, Q, O⟩ := iv
    have n8 := C.2.2.2.2.2.2.2.1
    have d8 : D.2.2.2 ≤ 20 := C.2.2.2.2.1.2.2.2.2.2.2.2.1
    have rc : room_1.cells = 600000 := rfl
    rw [n8, rc]
    omega
  · obtain ⟨A, B, N, D, E, F, C, Q, O⟩ := iv
    have n9 := C.2.2.2.2.2.2.2.2
    have d8 : D.2.2.2 ≤ 20 := C.2.2.2.2.1.2.2.2.2.2.2.2.1
    have rc : room_1.slots = 7302250 := rfl
    rw [rc]
    omega
