/-! THE START: the first cells, at 0 -/
def g00 : aH := (fun _ => none, fun _ _ => 0, fun _ _ => 0, fun _ _ => none, 0, 0)
def oG (o : Option (Unit × aH)) : aH := match o with
  | some q => q.2
  | none => g00
theorem oG_e {o : Option (Unit × aH)} (h : o.isSome = true) : o = some ((), oG o) := by
  cases o with
  | none => cases h
  | some q => rfl
def g1H : aH := oG (f_X11_init 0 (nw g00 (.inl 10) 17))
def g2H : aH := oG (f_X12_init 107 (nw g1H (.inl 11) 103))
theorem h00_sh (z : Nat) : ((fun _ => none, fun _ _ => 0, fun _ _ => 0, fun _ _ => none, z, 0) : aH) = mvH z g00 := by
  refine aH_ext (fun b => ?_) (fun b j => ?_) (fun b j => ?_) (fun b j => ?_) rfl rfl
  · rw [shK]; split <;> rfl
  · rw [shI]; split <;> rfl
  · rw [shL]; split <;> rfl
  · rw [shR]; split <;> rfl
set_option maxRecDepth 1000000 in
theorem g1H_s : (f_X11_init 0 (nw g00 (.inl 10) 17)).isSome = true := by decide +kernel
theorem g1H_e : f_X11_init 0 (nw g00 (.inl 10) 17) = some ((), g1H) := oG_e g1H_s
set_option maxRecDepth 1000000 in
theorem g1H_n : hN g1H = 107 := by decide +kernel
set_option maxRecDepth 1000000 in
theorem g2H_s : (f_X12_init 107 (nw g1H (.inl 11) 103)).isSome = true := by decide +kernel
theorem g2H_e : f_X12_init 107 (nw g1H (.inl 11) 103) = some ((), g2H) := oG_e g2H_s
set_option maxRecDepth 1000000 in
theorem g2H_n : hN g2H = 175 ∧ hS g2H ≤ 60000 := by decide +kernel
set_option maxRecDepth 1000000 in
theorem g2H_m0 : MS0 g2H 107 := by
  unfold MS0
  decide +kernel
set_option maxRecDepth 1000000 in
theorem g2H_m1 : MS1 g2H 107 := by
  unfold MS1
  decide +kernel
set_option maxRecDepth 1000000 in
theorem g2H_m2 : MS2 g2H 107 := by
  unfold MS2
  decide +kernel
set_option maxRecDepth 1000000 in
theorem g2H_m3 : MS3 g2H 107 := by
  unfold MS3
  decide +kernel
set_option maxRecDepth 1000000 in
theorem g2H_m4 : MS4 g2H 107 := by
  unfold MS4
  decide +kernel
set_option maxRecDepth 1000000 in
theorem g2H_m5 : MS5 g2H 107 := by
  unfold MS5
  decide +kernel
set_option maxRecDepth 1000000 in
theorem g2H_m6 : MS6 g2H 107 := by
  unfold MS6
  decide +kernel
set_option maxRecDepth 1000000 in
theorem g2H_m7 : MS7 g2H 107 := by
  unfold MS7
  decide +kernel
set_option maxRecDepth 1000000 in
theorem g2H_m8 : MS8 g2H 107 := by
  unfold MS8
  decide +kernel
set_option maxRecDepth 1000000 in
theorem g2H_m9 : MS9 g2H 107 := by
  unfold MS9
  decide +kernel
set_option maxRecDepth 1000000 in
theorem g2H_m10 : MS10 g2H 107 := by
  unfold MS10
  decide +kernel
set_option maxRecDepth 1000000 in
theorem g2H_m11 : MS11 g2H 107 := by
  unfold MS11
  decide +kernel
set_option maxRecDepth 1000000 in
theorem g2H_m12 : MS12 g2H 107 := by
  unfold MS12
  decide +kernel
set_option maxRecDepth 1000000 in
theorem g2H_m13 : MS13 g2H 107 := by
  unfold MS13
  decide +kernel
theorem g2H_ms : MS g2H 107 := ⟨g2H_m0, g2H_m1, g2H_m2, g2H_m3, g2H_m4, g2H_m5, g2H_m6, g2H_m7, g2H_m8, g2H_m9, g2H_m10, g2H_m11, g2H_m12, g2H_m13⟩
set_option maxRecDepth 1000000 in
theorem g2H_x0 : XS0 g2H 0 := by
  unfold XS0
  decide +kernel
set_option maxRecDepth 1000000 in
theorem g2H_x1 : XS1 g2H 0 := by
  unfold XS1
  decide +kernel
set_option maxRecDepth 1000000 in
theorem g2H_x2 : XS2 g2H 0 := by
  unfold XS2
  decide +kernel
set_option maxRecDepth 1000000 in
theorem g2H_x3 : XS3 g2H 0 := by
  unfold XS3
  decide +kernel
set_option maxRecDepth 1000000 in
theorem g2H_x4 : XS4 g2H 0 := by
  unfold XS4
  decide +kernel
set_option maxRecDepth 1000000 in
theorem g2H_x5 : XS5 g2H 0 := by
  unfold XS5
  decide +kernel
set_option maxRecDepth 1000000 in
theorem g2H_s3 : SS g2H 3 := by
  refine ⟨?_, ?_, ?_, ?_, ?_, ?_, ?_, ?_, ?_, ?_, ?_, ?_, ?_, ?_, ?_⟩ <;> decide +kernel
set_option maxRecDepth 1000000 in
theorem g2H_s42 : SS g2H 42 := by
  refine ⟨?_, ?_, ?_, ?_, ?_, ?_, ?_, ?_, ?_, ?_, ?_, ?_, ?_, ?_, ?_⟩ <;> decide +kernel
theorem g2H_xs : XS g2H 0 := ⟨g2H_s3, g2H_s42, g2H_x0, g2H_x1, g2H_x2, g2H_x3, g2H_x4, g2H_x5⟩
set_option maxRecDepth 1000000 in
theorem g2H_c : hI g2H 0 12 = nI 0 ∧ hI g2H 0 13 = nI 0 ∧ hI g2H 0 14 = nI 0 ∧ hI g2H 0 15 = -nI 1 ∧ hL g2H 0 16 = lN 1 ∧ hR g2H 0 9 = some 92 ∧ hR g2H 0 10 = some 98 ∧ hI g2H 81 0 = nI 0 ∧ hI g2H 81 1 = nI 0 ∧ hI g2H 87 0 = nI 0 ∧ hI g2H 90 1 = nI 0 ∧ hI g2H 3 6 = nI 0 ∧ hI g2H 3 7 = nI 0 ∧ (∀ k, k < 20 → hR g2H 82 k = none) ∧ (∀ k, k < 8 → hI g2H 2 k = 0) := by decide +kernel
set_option maxRecDepth 1000000 in
theorem g2H_p : ∀ k, k < 32 → ∀ j, j < 8 → hI g2H (10 + k) j = if j = 0 then nI 1 else nI 0 := by decide +kernel
set_option maxRecDepth 1000000 in
theorem g2H_m : hI g2H 107 45 = nI 0 ∧ hI g2H 107 1 = nI 0 ∧ hI g2H 107 7 = nI 0 ∧ hI g2H 107 8 = -nI 1 ∧ hL g2H 107 65 = lN 1 ∧ hI g2H 135 3 = nI 0 ∧ hI g2H 135 4 = nI 0 ∧ hI g2H 135 5 = nI 0 ∧ (∀ w, w < 3 → hI g2H 138 (3 + w) = -nI 1) ∧ hI g2H 107 63 = nI 0 ∧ hI g2H 107 64 = nI 0 ∧ hI g2H 107 58 = nI 0 ∧ hI g2H 107 102 = nI 0 ∧ (∀ k, k < 8 → hI g2H 109 k = 0) := by decide +kernel
set_option maxRecDepth 1000000 in
theorem g2H_w : ∀ i, i < 25 → (∀ j, j < (WD i).length → hI g2H (110 + i) j = nI ((WD i).getD j 0)) ∧ (∀ j, j < (WD (askW i)).length → hI g2H (146 + i) j = nI ((WD (askW i)).getD j 0)) := by decide +kernel
