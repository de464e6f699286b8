/-! the class clears a machine -/
theorem j_fillB {h : aH} {a n : Nat} (ha : hK h a = some (.inr (.byte, n))) (hn : n ≤ 1600) : f_J7_fill_031fb a (nI 0) h = some ((), fb h a 0 n (fun _ => nI 0)) := by
  have z8 : (nI 0).toInt8.toInt32 = nI 0 := rfl
  have L := (loop_itr (fun k i (_ : Unit) => f_J7_fill_031fb_5 k a (nI 0) (nI i) (nI n) (fb h a 0 i (fun _ => nI 0))) n (fun _ u => u) (fun _ => ((), fb h a 0 n (fun _ => nI 0))) (fun _ _ => True) (fun k i _ hi _ => ⟨?_, trivial⟩) (fun k _ _ => ?_) n 0 () FU (by omega) trivial (FU_gt (by omega))).1
  · rw [show fb h a 0 0 (fun _ => nI 0) = h from fb_0] at L
    have e : Int32.ofNat n = nI n := rfl
    simp only [f_J7_fill_031fb, ka_t ha, nm, e]
    exact L
  · have nx := fb_next (h := h) (a := a) (t := 0) (i := i) (f := fun _ => nI 0)
    rw [Nat.zero_add i] at nx
    have k1 : hK (fb h a 0 i (fun _ => nI 0)) a = some (.inr (.byte, n)) := ha
    have h1 : ¬ nI n ≤ nI i := nI_ge hi (by omega)
    simp only [f_J7_fill_031fb_5, b_J7_fill_031fb_5, if_neg h1, ka_t k1, chk_t (inb_nI hi (show n < 2 ^ 31 by omega)), nm, tn_nI (show i < 2 ^ 31 by omega), nI_1, z8, nx]
  · simp only [f_J7_fill_031fb_5, b_J7_fill_031fb_5, if_pos (Int32.le_refl (nI n))]
/-- a machine without anything -/
def clM (h : aH) (a : Nat) : aH := fb (fb (fb (sI (sI (sI h a 0 (nI 0)) a 3 (nI 0)) a 9 (nI 0)) (a + 1) 0 24 (fun _ => nI 0)) (a + 4) 0 3 (fun _ => nI 0)) (a + 5) 0 3 (fun _ => nI 0)
theorem c_clear4 {h : aH} {a : Nat} (A : MA h a) : f_X4_clear a h = some ((), clM h a) := by
  obtain ⟨g0, hg0⟩ : ∃ g, g = sI (sI (sI h a 0 (nI 0)) a 3 (nI 0)) a 9 (nI 0) := ⟨_, rfl⟩
  have A0 : MA g0 a := A.of (by rw [hg0]; rfl) (by rw [hg0]; rfl)
  have e1 := j_fillB (h := g0) (a := a + 1) (n := 24) A0.2.2.2.2.2.2.1 (by omega)
  obtain ⟨g1, hg1⟩ : ∃ g, g = fb g0 (a + 1) 0 24 (fun _ => nI 0) := ⟨_, rfl⟩
  rw [← hg1] at e1
  have A1 : MA g1 a := A0.of (by rw [hg1]; rfl) (by rw [hg1]; rfl)
  have e2 := j_fill0 (h := g1) (a := a + 4) (n := 3) A1.k4 (by omega)
  obtain ⟨g2, hg2⟩ : ∃ g, g = fb g1 (a + 4) 0 3 (fun _ => nI 0) := ⟨_, rfl⟩
  rw [← hg2] at e2
  have A2 : MA g2 a := A1.of (by rw [hg2]; rfl) (by rw [hg2]; rfl)
  have e3 := j_fill0 (h := g2) (a := a + 5) (n := 3) A2.k5 (by omega)
  have e : clM h a = fb g2 (a + 5) 0 3 (fun _ => nI 0) := by rw [hg2, hg1, hg0]; rfl
  rw [e]
  have r4 : hR h a 4 = some (a + 1) := A.2.1
  unfold f_X4_clear
  rw [ko_t A.k, kr_t r4, show (0 : Int32) = nI 0 from rfl, ← hg0, bd_t e1, ko_t A1.k, kr_t A1.r7, bd_t e2, ko_t A2.k, kr_t A2.r8, bd_t e3]
