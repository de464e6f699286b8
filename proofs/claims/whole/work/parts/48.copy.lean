/-! one pointer, one state becomes another -/
theorem hI_acp (h : aH) (a0 sp a dp n b j : Nat) : hI (acp h a0 sp a dp n) b j = if b = a ∧ dp ≤ j ∧ j < dp + n then hI h a0 (sp + (j - dp)) else hI h b j := rfl
def cpP (h : aH) (p q : Nat) : aH := (h.1, fun b j => if b = p ∧ j < 8 then hI h q j else hI h b j, h.2.2)
theorem hI_cpP (h : aH) (p q b j : Nat) : hI (cpP h p q) b j = if b = p ∧ j < 8 then hI h q j else hI h b j := rfl
theorem hK_cpP (h : aH) (p q : Nat) : hK (cpP h p q) = hK h := rfl
theorem hR_cpP (h : aH) (p q : Nat) : hR (cpP h p q) = hR h := rfl
theorem p_become {h : aH} {p q : Nat} (hp : hK h p = some (.inl 6)) (hq : hK h q = some (.inl 6)) (h0 : hI h q 0 = 0 ∨ hI h q 0 = 1) (h1 : hI h q 1 = 0 ∨ hI h q 1 = 1) : f_X6_become p q h = some ((), cpP h p q) := by
  have e : ∀ i k v, hI (sI h p i v) q k = if q = p ∧ k = i then v else hI h q k := fun _ _ _ => rfl
  by_cases c : q = p
  · subst c
    have e3 : ∀ (g : aH) (i k : Nat) (v : Int32), k ≠ i → hI (sI g q i v) q k = hI g q k := fun g i k v hk => by rw [hI_sI, if_neg (fun z => hk z.2)]
    simp only [f_X6_become, ko_t hp, chk_t h0, nm]
    rw [e3 h 0 1 _ (by omega), chk_t h1]
    congr 2
    apply aH_ext
    · intro b; rfl
    · intro b j
      simp only [hI_sI, hI_cpP]
      by_cases hb : b = q
      · subst hb
        by_cases hj : j < 8
        · rcases (show j = 0 ∨ j = 1 ∨ j = 2 ∨ j = 3 ∨ j = 4 ∨ j = 5 ∨ j = 6 ∨ j = 7 by omega) with rfl | rfl | rfl | rfl | rfl | rfl | rfl | rfl <;> simp
        · simp [hj, show j ≠ 0 by omega, show j ≠ 1 by omega, show j ≠ 2 by omega, show j ≠ 3 by omega, show j ≠ 4 by omega, show j ≠ 5 by omega, show j ≠ 6 by omega, show j ≠ 7 by omega]
      · simp [hb]
    · intro b j; rfl
    · intro b j; rfl
    · rfl
    · rfl
  · have e2 : ∀ (g : aH) (i k : Nat) (v : Int32), hI (sI g p i v) q k = hI g q k := fun g i k v => by rw [hI_sI, if_neg (fun z => c z.1)]
    simp only [f_X6_become, ko_t hp, ko_t hq, chk_t h0, nm, e2, chk_t h1]
    congr 2
    apply aH_ext
    · intro b; rfl
    · intro b j
      simp only [hI_sI, hI_cpP]
      by_cases hb : b = p
      · subst hb
        by_cases hj : j < 8
        · rcases (show j = 0 ∨ j = 1 ∨ j = 2 ∨ j = 3 ∨ j = 4 ∨ j = 5 ∨ j = 6 ∨ j = 7 by omega) with rfl | rfl | rfl | rfl | rfl | rfl | rfl | rfl <;> simp
        · simp [hj, show j ≠ 0 by omega, show j ≠ 1 by omega, show j ≠ 2 by omega, show j ≠ 3 by omega, show j ≠ 4 by omega, show j ≠ 5 by omega, show j ≠ 6 by omega, show j ≠ 7 by omega]
      · simp [hb]
    · intro b j; rfl
    · intro b j; rfl
    · rfl
    · rfl
def cpS (h : aH) (s o i : Nat) : aH := (h.1, fun b j => if s + 7 ≤ b ∧ b < s + 7 + i ∧ j < 8 then hI h (o + (b - s)) j else hI h b j, h.2.2)
theorem hI_cpS (h : aH) (s o i b j : Nat) : hI (cpS h s o i) b j = if s + 7 ≤ b ∧ b < s + 7 + i ∧ j < 8 then hI h (o + (b - s)) j else hI h b j := rfl
theorem hK_cpS (h : aH) (s o i : Nat) : hK (cpS h s o i) = hK h := rfl
theorem hR_cpS (h : aH) (s o i : Nat) : hR (cpS h s o i) = hR h := rfl
theorem cpS_0 (h : aH) (s o : Nat) : cpS h s o 0 = h := by
  apply aH_ext
  · intro b; rfl
  · intro b j; rw [hI_cpS, if_neg (by omega)]
  · intro b j; rfl
  · intro b j; rfl
  · rfl
  · rfl
theorem cpS_succ {h : aH} {s o i : Nat} (ho : s + 39 ≤ o ∨ o + 39 ≤ s) (hi : i < 32) : cpP (cpS h s o i) (s + 7 + i) (o + 7 + i) = cpS h s o (i + 1) := by
  apply aH_ext
  · intro b; rfl
  · intro b j
    rw [hI_cpP, hI_cpS, hI_cpS, hI_cpS]
    by_cases h1 : b = s + 7 + i ∧ j < 8
    · obtain ⟨rfl, hj⟩ := h1
      rw [if_pos ⟨rfl, hj⟩, if_neg (by omega), if_pos (by omega), show o + (s + 7 + i - s) = o + 7 + i by omega]
    · rw [if_neg h1]
      by_cases h2 : s + 7 ≤ b ∧ b < s + 7 + i ∧ j < 8
      · rw [if_pos h2, if_pos (by omega)]
      · rw [if_neg h2, if_neg (by omega)]
  · intro b j; rfl
  · intro b j; rfl
  · rfl
  · rfl
/-- all of a State becomes another's -/
def cpA (h : aH) (s o : Nat) : aH := (h.1, fun b j => if s + 7 ≤ b ∧ b < s + 39 ∧ j < 8 then hI h (o + (b - s)) j else if (b = s + 2 ∨ b = s + 3 ∨ b = s + 4) ∧ j < 32 then hI h (o + (b - s)) j else if b = s + 5 ∧ j < 120 then hI h (o + 5) j else if b = s + 6 ∧ j < 256 then hI h (o + 6) j else if b = s ∧ (j = 6 ∨ j = 7) then hI h o j else hI h b j, h.2.2)
theorem hI_cpA (h : aH) (s o b j : Nat) : hI (cpA h s o) b j = if s + 7 ≤ b ∧ b < s + 39 ∧ j < 8 then hI h (o + (b - s)) j else if (b = s + 2 ∨ b = s + 3 ∨ b = s + 4) ∧ j < 32 then hI h (o + (b - s)) j else if b = s + 5 ∧ j < 120 then hI h (o + 5) j else if b = s + 6 ∧ j < 256 then hI h (o + 6) j else if b = s ∧ (j = 6 ∨ j = 7) then hI h o j else hI h b j := rfl
theorem hK_cpA (h : aH) (s o : Nat) : hK (cpA h s o) = hK h := rfl
theorem hR_cpA (h : aH) (s o : Nat) : hR (cpA h s o) = hR h := rfl
theorem tn_0 : (0 : Int32).toNatClampNeg = 0 := by decide
theorem tn_32 : (32 : Int32).toNatClampNeg = 32 := by decide
theorem tn_120 : (Int32.ofNat 120).toNatClampNeg = 120 := by decide
theorem tn_256 : (Int32.ofNat 256).toNatClampNeg = 256 := by decide
theorem SS.acp {h : aH} {s a b c d n : Nat} (S : SS h s) : SS (acp h a b c d n) s := S.of (hK_acp _ _ _ _ _ _) (hR_acp _ _ _ _ _ _)
theorem s_become {h : aH} {s o : Nat} (S : SS h s) (O : SS h o) (ho : s + 39 ≤ o ∨ o + 39 ≤ s) (hv : ∀ k, k < 32 → (hI h (o + 7 + k) 0 = 0 ∨ hI h (o + 7 + k) 0 = 1) ∧ (hI h (o + 7 + k) 1 = 0 ∨ hI h (o + 7 + k) 1 = 1)) : f_X9_become s o h = some ((), cpA h s o) := by
  have SC : ∀ i, SS (cpS h s o i) s := fun i => S.of (hK_cpS _ _ _ _) (hR_cpS _ _ _ _)
  have OC : ∀ i, SS (cpS h s o i) o := fun i => O.of (hK_cpS _ _ _ _) (hR_cpS _ _ _ _)
  have L := (loop_itr (fun n i (_ : Unit) => f_X9_become_2 n s o (nI i) (cpS h s o i)) 32 (fun _ u => u) (fun _ => ((), cpA h s o)) (fun _ _ => True) (fun n i _ hi _ => ⟨?_, trivial⟩) (fun n _ _ => ?_) 32 0 () FU (by omega) trivial (FU_gt (by omega))).1
  · rw [show f_X9_become s o h = f_X9_become_2 FU s o (nI 0) (cpS h s o 0) by rw [cpS_0]; rfl]
    exact L
  · have h1 : ¬ (32 : Int32) ≤ nI i := nI_ge (b := 32) hi (by omega)
    have e1 : (nI i).toNatClampNeg = i := tn_nI (by omega)
    have v0 : ∀ j, hI (cpS h s o i) (o + 7 + i) j = hI h (o + 7 + i) j := fun j => by rw [hI_cpS, if_neg (by omega)]
    have B := p_become ((SC i).kp hi) ((OC i).kp hi) (by rw [v0]; exact (hv i hi).1) (by rw [v0]; exact (hv i hi).2)
    simp only [f_X9_become_2, b_X9_become_2, if_neg h1, ko_t (SC i).k, kr_t (SC i).r0, ka_t (SC i).k1, chk_t (inb_nI hi (show 32 < 2 ^ 31 by omega)), e1, kr_t ((SC i).rp hi), ko_t (OC i).k, kr_t (OC i).r0, ka_t (OC i).k1, kr_t ((OC i).rp hi), ko_t ((SC i).kp hi), B, bd_s, nm, nI_1, cpS_succ ho hi]
  · have h1 : (32 : Int32) ≤ nI 32 := by decide
    have A1 := (SC 32).acp (a := o + 2) (b := 0) (c := s + 2) (d := 0) (n := 32)
    have B1 := (OC 32).acp (a := o + 2) (b := 0) (c := s + 2) (d := 0) (n := 32)
    have A2 := A1.acp (a := o + 3) (b := 0) (c := s + 3) (d := 0) (n := 32)
    have B2 := B1.acp (a := o + 3) (b := 0) (c := s + 3) (d := 0) (n := 32)
    have A3 := A2.acp (a := o + 4) (b := 0) (c := s + 4) (d := 0) (n := 32)
    have B3 := B2.acp (a := o + 4) (b := 0) (c := s + 4) (d := 0) (n := 32)
    have A4 := A3.acp (a := o + 5) (b := 0) (c := s + 5) (d := 0) (n := 120)
    have B4 := B3.acp (a := o + 5) (b := 0) (c := s + 5) (d := 0) (n := 120)
    have A5 := A4.acp (a := o + 6) (b := 0) (c := s + 6) (d := 0) (n := 256)
    have B5 := B4.acp (a := o + 6) (b := 0) (c := s + 6) (d := 0) (n := 256)
    have c32 : ¬ (0 : Int32) < 0 ∧ ¬ (0 : Int32) < 0 ∧ ¬ (32 : Int32) < 0 ∧ 0 + 32 ≤ 32 ∧ 0 + 32 ≤ 32 := by decide
    have c120 : ¬ (0 : Int32) < 0 ∧ ¬ (0 : Int32) < 0 ∧ ¬ (Int32.ofNat 120 : Int32) < 0 ∧ 0 + 120 ≤ 120 ∧ 0 + 120 ≤ 120 := by decide
    have c256 : ¬ (0 : Int32) < 0 ∧ ¬ (0 : Int32) < 0 ∧ ¬ (Int32.ofNat 256 : Int32) < 0 ∧ 0 + 256 ≤ 256 ∧ 0 + 256 ≤ 256 := by decide
    simp only [f_X9_become_2, b_X9_become_2, if_pos h1, tn_0, tn_32, ko_t (OC 32).k, kr_t (OC 32).r1, ko_t (SC 32).k, kr_t (SC 32).r1, ka_t (OC 32).k2, ka_t (SC 32).k2, chk_t c32, nm, ko_t B1.k, kr_t B1.r2, ko_t A1.k, kr_t A1.r2, ka_t B1.k3, ka_t A1.k3, ko_t B2.k, kr_t B2.r3, ko_t A2.k, kr_t A2.r3, ka_t B2.k4, ka_t A2.k4, ko_t B3.k, kr_t B3.r4, ko_t A3.k, kr_t A3.r4, ka_t B3.k5, ka_t A3.k5, tn_120, chk_t c120, ko_t B4.k, kr_t B4.r5, ko_t A4.k, kr_t A4.r5, ka_t B4.k6, ka_t A4.k6, tn_256, chk_t c256, ko_t B5.k, ko_t A5.k]
    congr 2
    apply aH_ext
    · intro b; rfl
    · intro b j
      simp only [hI_sI, hI_acp, hI_cpS, hI_cpA, Nat.zero_add, Nat.sub_zero, Nat.zero_le, true_and]
      by_cases c7 : b = s ∧ j = 7
      · obtain ⟨rfl, rfl⟩ := c7
        repeat (first | rw [if_pos (by omega)] | rw [if_neg (by omega)])
      · by_cases c6 : b = s ∧ j = 6
        · obtain ⟨rfl, rfl⟩ := c6
          repeat (first | rw [if_pos (by omega)] | rw [if_neg (by omega)])
        · by_cases cA : s + 7 ≤ b ∧ b < s + 39 ∧ j < 8
          · repeat (first | rw [if_pos (by omega)] | rw [if_neg (by omega)])
          · by_cases c2 : b = s + 2 ∧ j < 32
            · obtain ⟨rfl, hj⟩ := c2
              rw [show o + (s + 2 - s) = o + 2 by omega]
              repeat (first | rw [if_pos (by omega)] | rw [if_neg (by omega)])
            · by_cases c3 : b = s + 3 ∧ j < 32
              · obtain ⟨rfl, hj⟩ := c3
                rw [show o + (s + 3 - s) = o + 3 by omega]
                repeat (first | rw [if_pos (by omega)] | rw [if_neg (by omega)])
              · by_cases c4 : b = s + 4 ∧ j < 32
                · obtain ⟨rfl, hj⟩ := c4
                  rw [show o + (s + 4 - s) = o + 4 by omega]
                  repeat (first | rw [if_pos (by omega)] | rw [if_neg (by omega)])
                · by_cases c5 : b = s + 5 ∧ j < 120
                  · obtain ⟨rfl, hj⟩ := c5
                    repeat (first | rw [if_pos (by omega)] | rw [if_neg (by omega)])
                  · by_cases c8 : b = s + 6 ∧ j < 256
                    · obtain ⟨rfl, hj⟩ := c8
                      repeat (first | rw [if_pos (by omega)] | rw [if_neg (by omega)])
                    · repeat (first | rw [if_pos (by omega)] | rw [if_neg (by omega)])
    · intro b j; rfl
    · intro b j; rfl
    · rfl
    · rfl
