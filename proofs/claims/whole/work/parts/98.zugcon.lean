/-! THE START: rows of nothing -/
def ZR (b : Nat) (h : aH) : Prop := ∀ j, hI h b j = 0
section Zr
variable {b : Nat} {h : aH}
theorem ZR.nw {κ : aK} {n : Nat} (Z : ZR b h) : ZR b (nw h κ n) := fun j => by
  rw [hI_nw]
  split
  · rfl
  · exact Z j
theorem ZR.sI {a i : Nat} {v : Int32} (ha : ¬ b = a) (Z : ZR b h) : ZR b (sI h a i v) := fun j => by
  rw [hI_sI, if_neg (fun y => ha y.1)]
  exact Z j
theorem ZR.sR {a i : Nat} {v : Option Nat} (Z : ZR b h) : ZR b (sR h a i v) := fun j => Z j
theorem ZR.sL {a i : Nat} {v : Int64} (Z : ZR b h) : ZR b (sL h a i v) := fun j => Z j
end Zr
section Zu
variable {b : Nat} {h h1 : aH} {u : Unit}
theorem u_X9 {X : aH} (H : f_X9_init (hN X) (nw X (.inl 9) 8) = some (u, h1)) (Z : ZR b X) (hb : ¬ b = hN X ∧ ¬ (hN X + 7 ≤ b ∧ b < hN X + 39)) : ZR b h1 ∧ hN h1 = hN X + 39 := by
  rw [s_init (h := nw X (.inl 9) 8) (s := hN X) (by rw [hK_nw, if_pos rfl]) rfl] at H
  obtain ⟨-, rfl⟩ := so_1 H
  have Z6 : ZR b (st6 (nw X (.inl 9) 8) (hN X)) := by
    unfold st6
    exact ZR.sI hb.1 (ZR.sI hb.1 (ZR.sR (ZR.nw (ZR.sR (ZR.nw (ZR.sR (ZR.nw (ZR.sR (ZR.nw (ZR.sR (ZR.nw (ZR.sR (ZR.nw (ZR.nw Z))))))))))))))
  refine ⟨fun j => ?_, ?_⟩
  · show (if hN X + 7 ≤ b ∧ b < hN X + 7 + 32 then (if j = 0 then 1 else 0) else hI (st6 (nw X (.inl 9) 8) (hN X)) b j) = 0
    rw [if_neg (by omega)]
    exact Z6 j
  · show hN X + 1 + 1 + 1 + 1 + 1 + 1 + 1 + 32 = hN X + 39
    omega
theorem u_X2 {a : Nat} (H : f_X2_init a h = some (u, h1)) (ha : ¬ b = a) (Z : ZR b h) : ZR b h1 ∧ hN h1 = hN h + 1 := by
  unfold f_X2_init at H
  obtain ⟨-, H⟩ := ko_o H
  obtain ⟨_, rfl, H⟩ := nm_o H
  obtain ⟨_, rfl, H⟩ := nm_o H
  obtain ⟨-, H⟩ := ko_o H
  obtain ⟨-, rfl⟩ := so_1 H
  refine ⟨?_, rfl⟩
  repeat (first | (with_reducible exact Z) | (with_reducible refine ZR.sR ?_) | (with_reducible refine ZR.sL ?_) | ((with_reducible refine ZR.sI ?_ ?_); omega) | (with_reducible refine ZR.nw ?_))
theorem u_X3 {a : Nat} (H : f_X3_init a h = some (u, h1)) (ha : ¬ b = a) (Z : ZR b h) : ZR b h1 ∧ hN h1 = hN h + 1 := by
  unfold f_X3_init at H
  obtain ⟨_, rfl, H⟩ := nm_o H
  obtain ⟨_, rfl, H⟩ := nm_o H
  obtain ⟨-, H⟩ := ko_o H
  obtain ⟨-, rfl⟩ := so_1 H
  refine ⟨?_, rfl⟩
  repeat (first | (with_reducible exact Z) | (with_reducible refine ZR.sR ?_) | (with_reducible refine ZR.sL ?_) | ((with_reducible refine ZR.sI ?_ ?_); omega) | (with_reducible refine ZR.nw ?_))
theorem u_X4 {a : Nat} (H : f_X4_init a h = some (u, h1)) (ha : ¬ b = a) (Z : ZR b h) : ZR b h1 ∧ hN h1 = hN h + 5 := by
  unfold f_X4_init at H
  obtain ⟨-, H⟩ := ko_o H
  obtain ⟨_, rfl, H⟩ := nm_o H
  obtain ⟨_, rfl, H⟩ := nm_o H
  obtain ⟨-, H⟩ := ko_o H
  obtain ⟨_, rfl, H⟩ := nm_o H
  obtain ⟨_, rfl, H⟩ := nm_o H
  obtain ⟨-, H⟩ := ko_o H
  obtain ⟨_, rfl, H⟩ := nm_o H
  obtain ⟨_, rfl, H⟩ := nm_o H
  obtain ⟨-, H⟩ := ko_o H
  obtain ⟨_, rfl, H⟩ := nm_o H
  obtain ⟨_, rfl, H⟩ := nm_o H
  obtain ⟨-, H⟩ := ko_o H
  obtain ⟨_, rfl, H⟩ := nm_o H
  obtain ⟨_, rfl, H⟩ := nm_o H
  obtain ⟨-, H⟩ := ko_o H
  obtain ⟨-, rfl⟩ := so_1 H
  refine ⟨?_, rfl⟩
  repeat (first | (with_reducible exact Z) | (with_reducible refine ZR.sR ?_) | (with_reducible refine ZR.sL ?_) | ((with_reducible refine ZR.sI ?_ ?_); omega) | (with_reducible refine ZR.nw ?_))
theorem u_X7 {a : Nat} (H : f_X7_init a h = some (u, h1)) (ha : ¬ b = a) (Z : ZR b h) : ZR b h1 ∧ hN h1 = hN h + 1 := by
  unfold f_X7_init at H
  obtain ⟨_, rfl, H⟩ := nm_o H
  obtain ⟨_, rfl, H⟩ := nm_o H
  obtain ⟨-, H⟩ := ko_o H
  obtain ⟨-, rfl⟩ := so_1 H
  refine ⟨?_, rfl⟩
  repeat (first | (with_reducible exact Z) | (with_reducible refine ZR.sR ?_) | (with_reducible refine ZR.sL ?_) | ((with_reducible refine ZR.sI ?_ ?_); omega) | (with_reducible refine ZR.nw ?_))
theorem u_X5 {a c : Nat} (H : f_X5_init a c h = some (u, h1)) (ha : ¬ b = a) (Z : ZR b h) (hb : ¬ b = hN h) : ZR b h1 ∧ hN h1 = hN h + 2 := by
  unfold f_X5_init at H
  obtain ⟨-, H⟩ := ko_o H
  obtain ⟨_, rfl, H⟩ := nm_o H
  obtain ⟨_, rfl, H⟩ := nm_o H
  obtain ⟨_, h5, H1, H⟩ := bd_o H
  obtain ⟨Z, n5⟩ := u_X7 H1 hb (ZR.nw (ZR.sI ha (ZR.sI ha Z)))
  have n5 : hN h5 = hN h + 2 := n5
  obtain ⟨-, H⟩ := ko_o H
  obtain ⟨-, rfl⟩ := so_1 H
  refine ⟨?_, n5⟩
  repeat (first | (with_reducible exact Z) | (with_reducible refine ZR.sR ?_) | (with_reducible refine ZR.sL ?_) | ((with_reducible refine ZR.sI ?_ ?_); omega) | (with_reducible refine ZR.nw ?_))
theorem u_X8 {a : Nat} (H : f_X8_init a h = some (u, h1)) (ha : ¬ b = a) (Z : ZR b h) : ZR b h1 ∧ hN h1 = hN h + 2 := by
  unfold f_X8_init at H
  obtain ⟨-, H⟩ := ko_o H
  obtain ⟨_, rfl, H⟩ := nm_o H
  obtain ⟨_, rfl, H⟩ := nm_o H
  obtain ⟨-, H⟩ := ko_o H
  obtain ⟨_, rfl, H⟩ := nm_o H
  obtain ⟨_, rfl, H⟩ := nm_o H
  obtain ⟨-, H⟩ := ko_o H
  obtain ⟨-, rfl⟩ := so_1 H
  refine ⟨?_, rfl⟩
  repeat (first | (with_reducible exact Z) | (with_reducible refine ZR.sR ?_) | (with_reducible refine ZR.sL ?_) | ((with_reducible refine ZR.sI ?_ ?_); omega) | (with_reducible refine ZR.nw ?_))
theorem u_X0 {a c : Nat} (H : f_X0_init a c h = some (u, h1)) (ha : ¬ b = a) (Z : ZR b h) : ZR b h1 ∧ hN h1 = hN h + 2 := by
  unfold f_X0_init at H
  obtain ⟨_, rfl, H⟩ := nm_o H
  obtain ⟨_, rfl, H⟩ := nm_o H
  obtain ⟨-, H⟩ := ko_o H
  obtain ⟨_, rfl, H⟩ := nm_o H
  obtain ⟨_, rfl, H⟩ := nm_o H
  obtain ⟨-, H⟩ := ko_o H
  obtain ⟨-, rfl⟩ := so_1 H
  refine ⟨?_, rfl⟩
  repeat (first | (with_reducible exact Z) | (with_reducible refine ZR.sR ?_) | (with_reducible refine ZR.sL ?_) | ((with_reducible refine ZR.sI ?_ ?_); omega) | (with_reducible refine ZR.nw ?_))
theorem u_X1 {a c d : Nat} (H : f_X1_init a c d h = some (u, h1)) (ha : ¬ b = a) (Z : ZR b h) : ZR b h1 ∧ hN h1 = hN h + 0 := by
  unfold f_X1_init at H
  obtain ⟨-, H⟩ := ko_o H
  obtain ⟨-, rfl⟩ := so_1 H
  refine ⟨?_, rfl⟩
  repeat (first | (with_reducible exact Z) | (with_reducible refine ZR.sR ?_) | (with_reducible refine ZR.sL ?_) | ((with_reducible refine ZR.sI ?_ ?_); omega) | (with_reducible refine ZR.nw ?_))
theorem u_X11 (H : f_X11_init 0 h = some (u, h1)) (hn : hN h = 1) (hb : b = 1 ∨ b = 9 ∨ b = 108 ∨ b = 141) (Z : ZR b h) : ZR b h1 := by
  unfold f_X11_init at H
  obtain ⟨_, rfl, H⟩ := nm_o H
  obtain ⟨_, rfl, H⟩ := nm_o H
  obtain ⟨-, H⟩ := ko_o H
  obtain ⟨_, rfl, H⟩ := nm_o H
  obtain ⟨_, rfl, H⟩ := nm_o H
  obtain ⟨-, H⟩ := ko_o H
  obtain ⟨_, rfl, H⟩ := nm_o H
  obtain ⟨_, rfl, H⟩ := nm_o H
  obtain ⟨_, g1, H1, H⟩ := bd_o H
  obtain ⟨Z1, n1⟩ := u_X9 H1 (b := b) (by repeat (first | (with_reducible exact Z) | (with_reducible refine ZR.sR ?_) | (with_reducible refine ZR.sL ?_) | ((with_reducible refine ZR.sI ?_ ?_); omega) | (with_reducible refine ZR.nw ?_))) (by show ¬ b = hN h + 1 + 1 ∧ ¬ (hN h + 1 + 1 + 7 ≤ b ∧ b < hN h + 1 + 1 + 39); omega)
  have n1 : hN g1 = 42 := by rw [n1]; show hN h + 1 + 1 + 39 = 42; omega
  clear Z H1
  have Z := Z1
  obtain ⟨-, H⟩ := ko_o H
  obtain ⟨_, rfl, H⟩ := nm_o H
  obtain ⟨_, rfl, H⟩ := nm_o H
  obtain ⟨_, g2, H1, H⟩ := bd_o H
  obtain ⟨Z2, n2⟩ := u_X9 H1 (b := b) (by repeat (first | (with_reducible exact Z) | (with_reducible refine ZR.sR ?_) | (with_reducible refine ZR.sL ?_) | ((with_reducible refine ZR.sI ?_ ?_); omega) | (with_reducible refine ZR.nw ?_))) (by show ¬ b = hN g1 ∧ ¬ (hN g1 + 7 ≤ b ∧ b < hN g1 + 39); omega)
  have n2 : hN g2 = 81 := by rw [n2]; show hN g1 + 39 = 81; omega
  clear Z H1
  have Z := Z2
  obtain ⟨-, H⟩ := ko_o H
  obtain ⟨_, rfl, H⟩ := nm_o H
  obtain ⟨_, rfl, H⟩ := nm_o H
  obtain ⟨_, g3, H1, H⟩ := bd_o H
  obtain ⟨Z3, n3⟩ := u_X2 H1 (b := b) (by show ¬ b = hN g2; omega) (by repeat (first | (with_reducible exact Z) | (with_reducible refine ZR.sR ?_) | (with_reducible refine ZR.sL ?_) | ((with_reducible refine ZR.sI ?_ ?_); omega) | (with_reducible refine ZR.nw ?_)))
  have n3 : hN g3 = 83 := by rw [n3]; show hN g2 + 1 + 1 = 83; omega
  clear Z H1
  have Z := Z3
  obtain ⟨-, H⟩ := ko_o H
  obtain ⟨_, rfl, H⟩ := nm_o H
  obtain ⟨_, rfl, H⟩ := nm_o H
  obtain ⟨-, H⟩ := ko_o H
  obtain ⟨_, -, H⟩ := kr_o H
  obtain ⟨-, H⟩ := ko_o H
  obtain ⟨_, -, H⟩ := kr_o H
  obtain ⟨_, g4, H1, H⟩ := bd_o H
  obtain ⟨Z4, n4⟩ := u_X0 H1 (b := b) (by show ¬ b = hN g3; omega) (by repeat (first | (with_reducible exact Z) | (with_reducible refine ZR.sR ?_) | (with_reducible refine ZR.sL ?_) | ((with_reducible refine ZR.sI ?_ ?_); omega) | (with_reducible refine ZR.nw ?_)))
  have n4 : hN g4 = 86 := by rw [n4]; show hN g3 + 1 + 2 = 86; omega
  clear Z H1
  have Z := Z4
  obtain ⟨-, H⟩ := ko_o H
  obtain ⟨_, rfl, H⟩ := nm_o H
  obtain ⟨_, rfl, H⟩ := nm_o H
  obtain ⟨-, H⟩ := ko_o H
  obtain ⟨_, -, H⟩ := kr_o H
  obtain ⟨_, -, H⟩ := kr_o H
  obtain ⟨_, g5, H1, H⟩ := bd_o H
  obtain ⟨Z5, n5⟩ := u_X1 H1 (b := b) (by show ¬ b = hN g4; omega) (by repeat (first | (with_reducible exact Z) | (with_reducible refine ZR.sR ?_) | (with_reducible refine ZR.sL ?_) | ((with_reducible refine ZR.sI ?_ ?_); omega) | (with_reducible refine ZR.nw ?_)))
  have n5 : hN g5 = 87 := by rw [n5]; show hN g4 + 1 + 0 = 87; omega
  clear Z H1
  have Z := Z5
  obtain ⟨-, H⟩ := ko_o H
  obtain ⟨_, rfl, H⟩ := nm_o H
  obtain ⟨_, rfl, H⟩ := nm_o H
  obtain ⟨_, g6, H1, H⟩ := bd_o H
  obtain ⟨Z6, n6⟩ := u_X8 H1 (b := b) (by show ¬ b = hN g5; omega) (by repeat (first | (with_reducible exact Z) | (with_reducible refine ZR.sR ?_) | (with_reducible refine ZR.sL ?_) | ((with_reducible refine ZR.sI ?_ ?_); omega) | (with_reducible refine ZR.nw ?_)))
  have n6 : hN g6 = 90 := by rw [n6]; show hN g5 + 1 + 2 = 90; omega
  clear Z H1
  have Z := Z6
  obtain ⟨-, H⟩ := ko_o H
  obtain ⟨_, rfl, H⟩ := nm_o H
  obtain ⟨_, rfl, H⟩ := nm_o H
  obtain ⟨_, g7, H1, H⟩ := bd_o H
  obtain ⟨Z7, n7⟩ := u_X3 H1 (b := b) (by show ¬ b = hN g6; omega) (by repeat (first | (with_reducible exact Z) | (with_reducible refine ZR.sR ?_) | (with_reducible refine ZR.sL ?_) | ((with_reducible refine ZR.sI ?_ ?_); omega) | (with_reducible refine ZR.nw ?_)))
  have n7 : hN g7 = 92 := by rw [n7]; show hN g6 + 1 + 1 = 92; omega
  clear Z H1
  have Z := Z7
  obtain ⟨-, H⟩ := ko_o H
  obtain ⟨_, rfl, H⟩ := nm_o H
  obtain ⟨_, rfl, H⟩ := nm_o H
  obtain ⟨_, g8, H1, H⟩ := bd_o H
  obtain ⟨Z8, n8⟩ := u_X4 H1 (b := b) (by show ¬ b = hN g7; omega) (by repeat (first | (with_reducible exact Z) | (with_reducible refine ZR.sR ?_) | (with_reducible refine ZR.sL ?_) | ((with_reducible refine ZR.sI ?_ ?_); omega) | (with_reducible refine ZR.nw ?_)))
  have n8 : hN g8 = 98 := by rw [n8]; show hN g7 + 1 + 5 = 98; omega
  clear Z H1
  have Z := Z8
  obtain ⟨-, H⟩ := ko_o H
  obtain ⟨_, rfl, H⟩ := nm_o H
  obtain ⟨_, rfl, H⟩ := nm_o H
  obtain ⟨_, g9, H1, H⟩ := bd_o H
  obtain ⟨Z9, n9⟩ := u_X4 H1 (b := b) (by show ¬ b = hN g8; omega) (by repeat (first | (with_reducible exact Z) | (with_reducible refine ZR.sR ?_) | (with_reducible refine ZR.sL ?_) | ((with_reducible refine ZR.sI ?_ ?_); omega) | (with_reducible refine ZR.nw ?_)))
  have n9 : hN g9 = 104 := by rw [n9]; show hN g8 + 1 + 5 = 104; omega
  clear Z H1
  have Z := Z9
  obtain ⟨-, H⟩ := ko_o H
  obtain ⟨_, rfl, H⟩ := nm_o H
  obtain ⟨_, rfl, H⟩ := nm_o H
  obtain ⟨-, H⟩ := ko_o H
  obtain ⟨_, -, H⟩ := kr_o H
  obtain ⟨_, g10, H1, H⟩ := bd_o H
  obtain ⟨Z10, n10⟩ := u_X5 H1 (b := b) (by show ¬ b = hN g9; omega) (by repeat (first | (with_reducible exact Z) | (with_reducible refine ZR.sR ?_) | (with_reducible refine ZR.sL ?_) | ((with_reducible refine ZR.sI ?_ ?_); omega) | (with_reducible refine ZR.nw ?_))) (by show ¬ b = hN g9 + 1; omega)
  have n10 : hN g10 = 107 := by rw [n10]; show hN g9 + 1 + 2 = 107; omega
  clear Z H1
  have Z := Z10
  obtain ⟨-, H⟩ := ko_o H
  obtain ⟨-, rfl⟩ := so_1 H
  repeat (first | (with_reducible exact Z) | (with_reducible refine ZR.sR ?_) | (with_reducible refine ZR.sL ?_) | ((with_reducible refine ZR.sI ?_ ?_); omega) | (with_reducible refine ZR.nw ?_))
theorem u_X12_init_1576 (H : f_X12_init_1576 h = some (u, h1)) (hn : hN h = 175) (hb : b = 1 ∨ b = 9 ∨ b = 108 ∨ b = 141) (Z : ZR b h) : ZR b h1 := by
  unfold f_X12_init_1576 at H
  obtain ⟨-, rfl⟩ := so_1 H
  exact Z
theorem u_X12_init_1567 (H : f_X12_init_1567 107 h = some (u, h1)) (hn : hN h = 174) (hb : b = 1 ∨ b = 9 ∨ b = 108 ∨ b = 141) (Z : ZR b h) : ZR b h1 := by
  unfold f_X12_init_1567 at H
  obtain ⟨_, rfl, H⟩ := nm_o H
  obtain ⟨_, rfl, H⟩ := nm_o H
  obtain ⟨-, H⟩ := ko_o H
  refine u_X12_init_1576 H (by show hN h + 1 = 175; omega) hb ?_
  repeat (first | (with_reducible exact Z) | (with_reducible refine ZR.sR ?_) | (with_reducible refine ZR.sL ?_) | ((with_reducible refine ZR.sI ?_ ?_); omega) | (with_reducible refine ZR.nw ?_))
theorem u_X12_init_1558 (H : f_X12_init_1558 107 h = some (u, h1)) (hn : hN h = 173) (hb : b = 1 ∨ b = 9 ∨ b = 108 ∨ b = 141) (Z : ZR b h) : ZR b h1 := by
  unfold f_X12_init_1558 at H
  obtain ⟨_, rfl, H⟩ := nm_o H
  obtain ⟨_, rfl, H⟩ := nm_o H
  obtain ⟨-, H⟩ := ko_o H
  refine u_X12_init_1567 H (by show hN h + 1 = 174; omega) hb ?_
  repeat (first | (with_reducible exact Z) | (with_reducible refine ZR.sR ?_) | (with_reducible refine ZR.sL ?_) | ((with_reducible refine ZR.sI ?_ ?_); omega) | (with_reducible refine ZR.nw ?_))
theorem u_X12_init_1549 (H : f_X12_init_1549 107 h = some (u, h1)) (hn : hN h = 172) (hb : b = 1 ∨ b = 9 ∨ b = 108 ∨ b = 141) (Z : ZR b h) : ZR b h1 := by
  unfold f_X12_init_1549 at H
  obtain ⟨_, rfl, H⟩ := nm_o H
  obtain ⟨_, rfl, H⟩ := nm_o H
  obtain ⟨-, H⟩ := ko_o H
  refine u_X12_init_1558 H (by show hN h + 1 = 173; omega) hb ?_
  repeat (first | (with_reducible exact Z) | (with_reducible refine ZR.sR ?_) | (with_reducible refine ZR.sL ?_) | ((with_reducible refine ZR.sI ?_ ?_); omega) | (with_reducible refine ZR.nw ?_))
theorem u_X12_init_1540 (H : f_X12_init_1540 107 h = some (u, h1)) (hn : hN h = 171) (hb : b = 1 ∨ b = 9 ∨ b = 108 ∨ b = 141) (Z : ZR b h) : ZR b h1 := by
  unfold f_X12_init_1540 at H
  obtain ⟨_, rfl, H⟩ := nm_o H
  obtain ⟨_, rfl, H⟩ := nm_o H
  obtain ⟨-, H⟩ := ko_o H
  refine u_X12_init_1549 H (by show hN h + 1 = 172; omega) hb ?_
  repeat (first | (with_reducible exact Z) | (with_reducible refine ZR.sR ?_) | (with_reducible refine ZR.sL ?_) | ((with_reducible refine ZR.sI ?_ ?_); omega) | (with_reducible refine ZR.nw ?_))
theorem u_X12_init_1513 (H : f_X12_init_1513 107 h = some (u, h1)) (hn : hN h = 170) (hb : b = 1 ∨ b = 9 ∨ b = 108 ∨ b = 141) (Z : ZR b h) : ZR b h1 := by
  unfold f_X12_init_1513 at H
  obtain ⟨_, rfl, H⟩ := nm_o H
  obtain ⟨_, rfl, H⟩ := nm_o H
  obtain ⟨_, -, H⟩ := ka_o H
  obtain ⟨-, H⟩ := chk_o H
  obtain ⟨-, H⟩ := chk_o H
  obtain ⟨-, H⟩ := chk_o H
  obtain ⟨-, H⟩ := chk_o H
  obtain ⟨-, H⟩ := ko_o H
  refine u_X12_init_1540 H (by show hN h + 1 = 171; omega) hb ?_
  repeat (first | (with_reducible exact Z) | (with_reducible refine ZR.sR ?_) | (with_reducible refine ZR.sL ?_) | ((with_reducible refine ZR.sI ?_ ?_); omega) | (with_reducible refine ZR.nw ?_))
theorem u_X12_init_1486 (H : f_X12_init_1486 107 h = some (u, h1)) (hn : hN h = 169) (hb : b = 1 ∨ b = 9 ∨ b = 108 ∨ b = 141) (Z : ZR b h) : ZR b h1 := by
  unfold f_X12_init_1486 at H
  obtain ⟨_, rfl, H⟩ := nm_o H
  obtain ⟨_, rfl, H⟩ := nm_o H
  obtain ⟨_, -, H⟩ := ka_o H
  obtain ⟨-, H⟩ := chk_o H
  obtain ⟨-, H⟩ := chk_o H
  obtain ⟨-, H⟩ := chk_o H
  obtain ⟨-, H⟩ := chk_o H
  obtain ⟨-, H⟩ := ko_o H
  refine u_X12_init_1513 H (by show hN h + 1 = 170; omega) hb ?_
  repeat (first | (with_reducible exact Z) | (with_reducible refine ZR.sR ?_) | (with_reducible refine ZR.sL ?_) | ((with_reducible refine ZR.sI ?_ ?_); omega) | (with_reducible refine ZR.nw ?_))
theorem u_X12_init_1454 (H : f_X12_init_1454 107 h = some (u, h1)) (hn : hN h = 168) (hb : b = 1 ∨ b = 9 ∨ b = 108 ∨ b = 141) (Z : ZR b h) : ZR b h1 := by
  unfold f_X12_init_1454 at H
  obtain ⟨_, rfl, H⟩ := nm_o H
  obtain ⟨_, rfl, H⟩ := nm_o H
  obtain ⟨_, -, H⟩ := ka_o H
  obtain ⟨-, H⟩ := chk_o H
  obtain ⟨-, H⟩ := chk_o H
  obtain ⟨-, H⟩ := chk_o H
  obtain ⟨-, H⟩ := chk_o H
  obtain ⟨-, H⟩ := chk_o H
  obtain ⟨-, H⟩ := ko_o H
  refine u_X12_init_1486 H (by show hN h + 1 = 169; omega) hb ?_
  repeat (first | (with_reducible exact Z) | (with_reducible refine ZR.sR ?_) | (with_reducible refine ZR.sL ?_) | ((with_reducible refine ZR.sI ?_ ?_); omega) | (with_reducible refine ZR.nw ?_))
theorem u_X12_init_1427 (H : f_X12_init_1427 107 h = some (u, h1)) (hn : hN h = 167) (hb : b = 1 ∨ b = 9 ∨ b = 108 ∨ b = 141) (Z : ZR b h) : ZR b h1 := by
  unfold f_X12_init_1427 at H
  obtain ⟨_, rfl, H⟩ := nm_o H
  obtain ⟨_, rfl, H⟩ := nm_o H
  obtain ⟨_, -, H⟩ := ka_o H
  obtain ⟨-, H⟩ := chk_o H
  obtain ⟨-, H⟩ := chk_o H
  obtain ⟨-, H⟩ := chk_o H
  obtain ⟨-, H⟩ := chk_o H
  obtain ⟨-, H⟩ := ko_o H
  refine u_X12_init_1454 H (by show hN h + 1 = 168; omega) hb ?_
  repeat (first | (with_reducible exact Z) | (with_reducible refine ZR.sR ?_) | (with_reducible refine ZR.sL ?_) | ((with_reducible refine ZR.sI ?_ ?_); omega) | (with_reducible refine ZR.nw ?_))
theorem u_X12_init_1405 (H : f_X12_init_1405 107 h = some (u, h1)) (hn : hN h = 166) (hb : b = 1 ∨ b = 9 ∨ b = 108 ∨ b = 141) (Z : ZR b h) : ZR b h1 := by
  unfold f_X12_init_1405 at H
  obtain ⟨_, rfl, H⟩ := nm_o H
  obtain ⟨_, rfl, H⟩ := nm_o H
  obtain ⟨_, -, H⟩ := ka_o H
  obtain ⟨-, H⟩ := chk_o H
  obtain ⟨-, H⟩ := chk_o H
  obtain ⟨-, H⟩ := chk_o H
  obtain ⟨-, H⟩ := ko_o H
  refine u_X12_init_1427 H (by show hN h + 1 = 167; omega) hb ?_
  repeat (first | (with_reducible exact Z) | (with_reducible refine ZR.sR ?_) | (with_reducible refine ZR.sL ?_) | ((with_reducible refine ZR.sI ?_ ?_); omega) | (with_reducible refine ZR.nw ?_))
theorem u_X12_init_1367 (H : f_X12_init_1367 107 h = some (u, h1)) (hn : hN h = 165) (hb : b = 1 ∨ b = 9 ∨ b = 108 ∨ b = 141) (Z : ZR b h) : ZR b h1 := by
  unfold f_X12_init_1367 at H
  obtain ⟨_, rfl, H⟩ := nm_o H
  obtain ⟨_, rfl, H⟩ := nm_o H
  obtain ⟨_, -, H⟩ := ka_o H
  obtain ⟨-, H⟩ := chk_o H
  obtain ⟨-, H⟩ := chk_o H
  obtain ⟨-, H⟩ := chk_o H
  obtain ⟨-, H⟩ := chk_o H
  obtain ⟨-, H⟩ := chk_o H
  obtain ⟨-, H⟩ := chk_o H
  obtain ⟨-, H⟩ := ko_o H
  refine u_X12_init_1405 H (by show hN h + 1 = 166; omega) hb ?_
  repeat (first | (with_reducible exact Z) | (with_reducible refine ZR.sR ?_) | (with_reducible refine ZR.sL ?_) | ((with_reducible refine ZR.sI ?_ ?_); omega) | (with_reducible refine ZR.nw ?_))
theorem u_X12_init_1335 (H : f_X12_init_1335 107 h = some (u, h1)) (hn : hN h = 164) (hb : b = 1 ∨ b = 9 ∨ b = 108 ∨ b = 141) (Z : ZR b h) : ZR b h1 := by
  unfold f_X12_init_1335 at H
  obtain ⟨_, rfl, H⟩ := nm_o H
  obtain ⟨_, rfl, H⟩ := nm_o H
  obtain ⟨_, -, H⟩ := ka_o H
  obtain ⟨-, H⟩ := chk_o H
  obtain ⟨-, H⟩ := chk_o H
  obtain ⟨-, H⟩ := chk_o H
  obtain ⟨-, H⟩ := chk_o H
  obtain ⟨-, H⟩ := chk_o H
  obtain ⟨-, H⟩ := ko_o H
  refine u_X12_init_1367 H (by show hN h + 1 = 165; omega) hb ?_
  repeat (first | (with_reducible exact Z) | (with_reducible refine ZR.sR ?_) | (with_reducible refine ZR.sL ?_) | ((with_reducible refine ZR.sI ?_ ?_); omega) | (with_reducible refine ZR.nw ?_))
theorem u_X12_init_1297 (H : f_X12_init_1297 107 h = some (u, h1)) (hn : hN h = 163) (hb : b = 1 ∨ b = 9 ∨ b = 108 ∨ b = 141) (Z : ZR b h) : ZR b h1 := by
  unfold f_X12_init_1297 at H
  obtain ⟨_, rfl, H⟩ := nm_o H
  obtain ⟨_, rfl, H⟩ := nm_o H
  obtain ⟨_, -, H⟩ := ka_o H
  obtain ⟨-, H⟩ := chk_o H
  obtain ⟨-, H⟩ := chk_o H
  obtain ⟨-, H⟩ := chk_o H
  obtain ⟨-, H⟩ := chk_o H
  obtain ⟨-, H⟩ := chk_o H
  obtain ⟨-, H⟩ := chk_o H
  obtain ⟨-, H⟩ := ko_o H
  refine u_X12_init_1335 H (by show hN h + 1 = 164; omega) hb ?_
  repeat (first | (with_reducible exact Z) | (with_reducible refine ZR.sR ?_) | (with_reducible refine ZR.sL ?_) | ((with_reducible refine ZR.sI ?_ ?_); omega) | (with_reducible refine ZR.nw ?_))
theorem u_X12_init_1270 (H : f_X12_init_1270 107 h = some (u, h1)) (hn : hN h = 162) (hb : b = 1 ∨ b = 9 ∨ b = 108 ∨ b = 141) (Z : ZR b h) : ZR b h1 := by
  unfold f_X12_init_1270 at H
  obtain ⟨_, rfl, H⟩ := nm_o H
  obtain ⟨_, rfl, H⟩ := nm_o H
  obtain ⟨_, -, H⟩ := ka_o H
  obtain ⟨-, H⟩ := chk_o H
  obtain ⟨-, H⟩ := chk_o H
  obtain ⟨-, H⟩ := chk_o H
  obtain ⟨-, H⟩ := chk_o H
  obtain ⟨-, H⟩ := ko_o H
  refine u_X12_init_1297 H (by show hN h + 1 = 163; omega) hb ?_
  repeat (first | (with_reducible exact Z) | (with_reducible refine ZR.sR ?_) | (with_reducible refine ZR.sL ?_) | ((with_reducible refine ZR.sI ?_ ?_); omega) | (with_reducible refine ZR.nw ?_))
theorem u_X12_init_1253 (H : f_X12_init_1253 107 h = some (u, h1)) (hn : hN h = 161) (hb : b = 1 ∨ b = 9 ∨ b = 108 ∨ b = 141) (Z : ZR b h) : ZR b h1 := by
  unfold f_X12_init_1253 at H
  obtain ⟨_, rfl, H⟩ := nm_o H
  obtain ⟨_, rfl, H⟩ := nm_o H
  obtain ⟨_, -, H⟩ := ka_o H
  obtain ⟨-, H⟩ := chk_o H
  obtain ⟨-, H⟩ := chk_o H
  obtain ⟨-, H⟩ := ko_o H
  refine u_X12_init_1270 H (by show hN h + 1 = 162; omega) hb ?_
  repeat (first | (with_reducible exact Z) | (with_reducible refine ZR.sR ?_) | (with_reducible refine ZR.sL ?_) | ((with_reducible refine ZR.sI ?_ ?_); omega) | (with_reducible refine ZR.nw ?_))
theorem u_X12_init_1226 (H : f_X12_init_1226 107 h = some (u, h1)) (hn : hN h = 160) (hb : b = 1 ∨ b = 9 ∨ b = 108 ∨ b = 141) (Z : ZR b h) : ZR b h1 := by
  unfold f_X12_init_1226 at H
  obtain ⟨_, rfl, H⟩ := nm_o H
  obtain ⟨_, rfl, H⟩ := nm_o H
  obtain ⟨_, -, H⟩ := ka_o H
  obtain ⟨-, H⟩ := chk_o H
  obtain ⟨-, H⟩ := chk_o H
  obtain ⟨-, H⟩ := chk_o H
  obtain ⟨-, H⟩ := chk_o H
  obtain ⟨-, H⟩ := ko_o H
  refine u_X12_init_1253 H (by show hN h + 1 = 161; omega) hb ?_
  repeat (first | (with_reducible exact Z) | (with_reducible refine ZR.sR ?_) | (with_reducible refine ZR.sL ?_) | ((with_reducible refine ZR.sI ?_ ?_); omega) | (with_reducible refine ZR.nw ?_))
theorem u_X12_init_1194 (H : f_X12_init_1194 107 h = some (u, h1)) (hn : hN h = 159) (hb : b = 1 ∨ b = 9 ∨ b = 108 ∨ b = 141) (Z : ZR b h) : ZR b h1 := by
  unfold f_X12_init_1194 at H
  obtain ⟨_, rfl, H⟩ := nm_o H
  obtain ⟨_, rfl, H⟩ := nm_o H
  obtain ⟨_, -, H⟩ := ka_o H
  obtain ⟨-, H⟩ := chk_o H
  obtain ⟨-, H⟩ := chk_o H
  obtain ⟨-, H⟩ := chk_o H
  obtain ⟨-, H⟩ := chk_o H
  obtain ⟨-, H⟩ := chk_o H
  obtain ⟨-, H⟩ := ko_o H
  refine u_X12_init_1226 H (by show hN h + 1 = 160; omega) hb ?_
  repeat (first | (with_reducible exact Z) | (with_reducible refine ZR.sR ?_) | (with_reducible refine ZR.sL ?_) | ((with_reducible refine ZR.sI ?_ ?_); omega) | (with_reducible refine ZR.nw ?_))
theorem u_X12_init_1167 (H : f_X12_init_1167 107 h = some (u, h1)) (hn : hN h = 158) (hb : b = 1 ∨ b = 9 ∨ b = 108 ∨ b = 141) (Z : ZR b h) : ZR b h1 := by
  unfold f_X12_init_1167 at H
  obtain ⟨_, rfl, H⟩ := nm_o H
  obtain ⟨_, rfl, H⟩ := nm_o H
  obtain ⟨_, -, H⟩ := ka_o H
  obtain ⟨-, H⟩ := chk_o H
  obtain ⟨-, H⟩ := chk_o H
  obtain ⟨-, H⟩ := chk_o H
  obtain ⟨-, H⟩ := chk_o H
  obtain ⟨-, H⟩ := ko_o H
  refine u_X12_init_1194 H (by show hN h + 1 = 159; omega) hb ?_
  repeat (first | (with_reducible exact Z) | (with_reducible refine ZR.sR ?_) | (with_reducible refine ZR.sL ?_) | ((with_reducible refine ZR.sI ?_ ?_); omega) | (with_reducible refine ZR.nw ?_))
theorem u_X12_init_1145 (H : f_X12_init_1145 107 h = some (u, h1)) (hn : hN h = 157) (hb : b = 1 ∨ b = 9 ∨ b = 108 ∨ b = 141) (Z : ZR b h) : ZR b h1 := by
  unfold f_X12_init_1145 at H
  obtain ⟨_, rfl, H⟩ := nm_o H
  obtain ⟨_, rfl, H⟩ := nm_o H
  obtain ⟨_, -, H⟩ := ka_o H
  obtain ⟨-, H⟩ := chk_o H
  obtain ⟨-, H⟩ := chk_o H
  obtain ⟨-, H⟩ := chk_o H
  obtain ⟨-, H⟩ := ko_o H
  refine u_X12_init_1167 H (by show hN h + 1 = 158; omega) hb ?_
  repeat (first | (with_reducible exact Z) | (with_reducible refine ZR.sR ?_) | (with_reducible refine ZR.sL ?_) | ((with_reducible refine ZR.sI ?_ ?_); omega) | (with_reducible refine ZR.nw ?_))
theorem u_X12_init_1123 (H : f_X12_init_1123 107 h = some (u, h1)) (hn : hN h = 156) (hb : b = 1 ∨ b = 9 ∨ b = 108 ∨ b = 141) (Z : ZR b h) : ZR b h1 := by
  unfold f_X12_init_1123 at H
  obtain ⟨_, rfl, H⟩ := nm_o H
  obtain ⟨_, rfl, H⟩ := nm_o H
  obtain ⟨_, -, H⟩ := ka_o H
  obtain ⟨-, H⟩ := chk_o H
  obtain ⟨-, H⟩ := chk_o H
  obtain ⟨-, H⟩ := chk_o H
  obtain ⟨-, H⟩ := ko_o H
  refine u_X12_init_1145 H (by show hN h + 1 = 157; omega) hb ?_
  repeat (first | (with_reducible exact Z) | (with_reducible refine ZR.sR ?_) | (with_reducible refine ZR.sL ?_) | ((with_reducible refine ZR.sI ?_ ?_); omega) | (with_reducible refine ZR.nw ?_))
theorem u_X12_init_1101 (H : f_X12_init_1101 107 h = some (u, h1)) (hn : hN h = 155) (hb : b = 1 ∨ b = 9 ∨ b = 108 ∨ b = 141) (Z : ZR b h) : ZR b h1 := by
  unfold f_X12_init_1101 at H
  obtain ⟨_, rfl, H⟩ := nm_o H
  obtain ⟨_, rfl, H⟩ := nm_o H
  obtain ⟨_, -, H⟩ := ka_o H
  obtain ⟨-, H⟩ := chk_o H
  obtain ⟨-, H⟩ := chk_o H
  obtain ⟨-, H⟩ := chk_o H
  obtain ⟨-, H⟩ := ko_o H
  refine u_X12_init_1123 H (by show hN h + 1 = 156; omega) hb ?_
  repeat (first | (with_reducible exact Z) | (with_reducible refine ZR.sR ?_) | (with_reducible refine ZR.sL ?_) | ((with_reducible refine ZR.sI ?_ ?_); omega) | (with_reducible refine ZR.nw ?_))
theorem u_X12_init_1084 (H : f_X12_init_1084 107 h = some (u, h1)) (hn : hN h = 154) (hb : b = 1 ∨ b = 9 ∨ b = 108 ∨ b = 141) (Z : ZR b h) : ZR b h1 := by
  unfold f_X12_init_1084 at H
  obtain ⟨_, rfl, H⟩ := nm_o H
  obtain ⟨_, rfl, H⟩ := nm_o H
  obtain ⟨_, -, H⟩ := ka_o H
  obtain ⟨-, H⟩ := chk_o H
  obtain ⟨-, H⟩ := chk_o H
  obtain ⟨-, H⟩ := ko_o H
  refine u_X12_init_1101 H (by show hN h + 1 = 155; omega) hb ?_
  repeat (first | (with_reducible exact Z) | (with_reducible refine ZR.sR ?_) | (with_reducible refine ZR.sL ?_) | ((with_reducible refine ZR.sI ?_ ?_); omega) | (with_reducible refine ZR.nw ?_))
theorem u_X12_init_1062 (H : f_X12_init_1062 107 h = some (u, h1)) (hn : hN h = 153) (hb : b = 1 ∨ b = 9 ∨ b = 108 ∨ b = 141) (Z : ZR b h) : ZR b h1 := by
  unfold f_X12_init_1062 at H
  obtain ⟨_, rfl, H⟩ := nm_o H
  obtain ⟨_, rfl, H⟩ := nm_o H
  obtain ⟨_, -, H⟩ := ka_o H
  obtain ⟨-, H⟩ := chk_o H
  obtain ⟨-, H⟩ := chk_o H
  obtain ⟨-, H⟩ := chk_o H
  obtain ⟨-, H⟩ := ko_o H
  refine u_X12_init_1084 H (by show hN h + 1 = 154; omega) hb ?_
  repeat (first | (with_reducible exact Z) | (with_reducible refine ZR.sR ?_) | (with_reducible refine ZR.sL ?_) | ((with_reducible refine ZR.sI ?_ ?_); omega) | (with_reducible refine ZR.nw ?_))
theorem u_X12_init_1040 (H : f_X12_init_1040 107 h = some (u, h1)) (hn : hN h = 152) (hb : b = 1 ∨ b = 9 ∨ b = 108 ∨ b = 141) (Z : ZR b h) : ZR b h1 := by
  unfold f_X12_init_1040 at H
  obtain ⟨_, rfl, H⟩ := nm_o H
  obtain ⟨_, rfl, H⟩ := nm_o H
  obtain ⟨_, -, H⟩ := ka_o H
  obtain ⟨-, H⟩ := chk_o H
  obtain ⟨-, H⟩ := chk_o H
  obtain ⟨-, H⟩ := chk_o H
  obtain ⟨-, H⟩ := ko_o H
  refine u_X12_init_1062 H (by show hN h + 1 = 153; omega) hb ?_
  repeat (first | (with_reducible exact Z) | (with_reducible refine ZR.sR ?_) | (with_reducible refine ZR.sL ?_) | ((with_reducible refine ZR.sI ?_ ?_); omega) | (with_reducible refine ZR.nw ?_))
theorem u_X12_init_1008 (H : f_X12_init_1008 107 h = some (u, h1)) (hn : hN h = 151) (hb : b = 1 ∨ b = 9 ∨ b = 108 ∨ b = 141) (Z : ZR b h) : ZR b h1 := by
  unfold f_X12_init_1008 at H
  obtain ⟨_, rfl, H⟩ := nm_o H
  obtain ⟨_, rfl, H⟩ := nm_o H
  obtain ⟨_, -, H⟩ := ka_o H
  obtain ⟨-, H⟩ := chk_o H
  obtain ⟨-, H⟩ := chk_o H
  obtain ⟨-, H⟩ := chk_o H
  obtain ⟨-, H⟩ := chk_o H
  obtain ⟨-, H⟩ := chk_o H
  obtain ⟨-, H⟩ := ko_o H
  refine u_X12_init_1040 H (by show hN h + 1 = 152; omega) hb ?_
  repeat (first | (with_reducible exact Z) | (with_reducible refine ZR.sR ?_) | (with_reducible refine ZR.sL ?_) | ((with_reducible refine ZR.sI ?_ ?_); omega) | (with_reducible refine ZR.nw ?_))
theorem u_X12_init_981 (H : f_X12_init_981 107 h = some (u, h1)) (hn : hN h = 150) (hb : b = 1 ∨ b = 9 ∨ b = 108 ∨ b = 141) (Z : ZR b h) : ZR b h1 := by
  unfold f_X12_init_981 at H
  obtain ⟨_, rfl, H⟩ := nm_o H
  obtain ⟨_, rfl, H⟩ := nm_o H
  obtain ⟨_, -, H⟩ := ka_o H
  obtain ⟨-, H⟩ := chk_o H
  obtain ⟨-, H⟩ := chk_o H
  obtain ⟨-, H⟩ := chk_o H
  obtain ⟨-, H⟩ := chk_o H
  obtain ⟨-, H⟩ := ko_o H
  refine u_X12_init_1008 H (by show hN h + 1 = 151; omega) hb ?_
  repeat (first | (with_reducible exact Z) | (with_reducible refine ZR.sR ?_) | (with_reducible refine ZR.sL ?_) | ((with_reducible refine ZR.sI ?_ ?_); omega) | (with_reducible refine ZR.nw ?_))
theorem u_X12_init_949 (H : f_X12_init_949 107 h = some (u, h1)) (hn : hN h = 149) (hb : b = 1 ∨ b = 9 ∨ b = 108 ∨ b = 141) (Z : ZR b h) : ZR b h1 := by
  unfold f_X12_init_949 at H
  obtain ⟨_, rfl, H⟩ := nm_o H
  obtain ⟨_, rfl, H⟩ := nm_o H
  obtain ⟨_, -, H⟩ := ka_o H
  obtain ⟨-, H⟩ := chk_o H
  obtain ⟨-, H⟩ := chk_o H
  obtain ⟨-, H⟩ := chk_o H
  obtain ⟨-, H⟩ := chk_o H
  obtain ⟨-, H⟩ := chk_o H
  obtain ⟨-, H⟩ := ko_o H
  refine u_X12_init_981 H (by show hN h + 1 = 150; omega) hb ?_
  repeat (first | (with_reducible exact Z) | (with_reducible refine ZR.sR ?_) | (with_reducible refine ZR.sL ?_) | ((with_reducible refine ZR.sI ?_ ?_); omega) | (with_reducible refine ZR.nw ?_))
theorem u_X12_init_917 (H : f_X12_init_917 107 h = some (u, h1)) (hn : hN h = 148) (hb : b = 1 ∨ b = 9 ∨ b = 108 ∨ b = 141) (Z : ZR b h) : ZR b h1 := by
  unfold f_X12_init_917 at H
  obtain ⟨_, rfl, H⟩ := nm_o H
  obtain ⟨_, rfl, H⟩ := nm_o H
  obtain ⟨_, -, H⟩ := ka_o H
  obtain ⟨-, H⟩ := chk_o H
  obtain ⟨-, H⟩ := chk_o H
  obtain ⟨-, H⟩ := chk_o H
  obtain ⟨-, H⟩ := chk_o H
  obtain ⟨-, H⟩ := chk_o H
  obtain ⟨-, H⟩ := ko_o H
  refine u_X12_init_949 H (by show hN h + 1 = 149; omega) hb ?_
  repeat (first | (with_reducible exact Z) | (with_reducible refine ZR.sR ?_) | (with_reducible refine ZR.sL ?_) | ((with_reducible refine ZR.sI ?_ ?_); omega) | (with_reducible refine ZR.nw ?_))
theorem u_X12_init_890 (H : f_X12_init_890 107 h = some (u, h1)) (hn : hN h = 147) (hb : b = 1 ∨ b = 9 ∨ b = 108 ∨ b = 141) (Z : ZR b h) : ZR b h1 := by
  unfold f_X12_init_890 at H
  obtain ⟨_, rfl, H⟩ := nm_o H
  obtain ⟨_, rfl, H⟩ := nm_o H
  obtain ⟨_, -, H⟩ := ka_o H
  obtain ⟨-, H⟩ := chk_o H
  obtain ⟨-, H⟩ := chk_o H
  obtain ⟨-, H⟩ := chk_o H
  obtain ⟨-, H⟩ := chk_o H
  obtain ⟨-, H⟩ := ko_o H
  refine u_X12_init_917 H (by show hN h + 1 = 148; omega) hb ?_
  repeat (first | (with_reducible exact Z) | (with_reducible refine ZR.sR ?_) | (with_reducible refine ZR.sL ?_) | ((with_reducible refine ZR.sI ?_ ?_); omega) | (with_reducible refine ZR.nw ?_))
theorem u_X12_init_858 (H : f_X12_init_858 107 h = some (u, h1)) (hn : hN h = 146) (hb : b = 1 ∨ b = 9 ∨ b = 108 ∨ b = 141) (Z : ZR b h) : ZR b h1 := by
  unfold f_X12_init_858 at H
  obtain ⟨_, rfl, H⟩ := nm_o H
  obtain ⟨_, rfl, H⟩ := nm_o H
  obtain ⟨_, -, H⟩ := ka_o H
  obtain ⟨-, H⟩ := chk_o H
  obtain ⟨-, H⟩ := chk_o H
  obtain ⟨-, H⟩ := chk_o H
  obtain ⟨-, H⟩ := chk_o H
  obtain ⟨-, H⟩ := chk_o H
  obtain ⟨-, H⟩ := ko_o H
  refine u_X12_init_890 H (by show hN h + 1 = 147; omega) hb ?_
  repeat (first | (with_reducible exact Z) | (with_reducible refine ZR.sR ?_) | (with_reducible refine ZR.sL ?_) | ((with_reducible refine ZR.sI ?_ ?_); omega) | (with_reducible refine ZR.nw ?_))
theorem u_X12_init_853 (H : f_X12_init_853 107 h = some (u, h1)) (hn : hN h = 146) (hb : b = 1 ∨ b = 9 ∨ b = 108 ∨ b = 141) (Z : ZR b h) : ZR b h1 := by
  unfold f_X12_init_853 at H
  obtain ⟨-, H⟩ := ko_o H
  refine u_X12_init_858 H (by show hN h = 146; omega) hb ?_
  repeat (first | (with_reducible exact Z) | (with_reducible refine ZR.sR ?_) | (with_reducible refine ZR.sL ?_) | ((with_reducible refine ZR.sI ?_ ?_); omega) | (with_reducible refine ZR.nw ?_))
theorem u_X12_init_844 (H : f_X12_init_844 107 h = some (u, h1)) (hn : hN h = 145) (hb : b = 1 ∨ b = 9 ∨ b = 108 ∨ b = 141) (Z : ZR b h) : ZR b h1 := by
  unfold f_X12_init_844 at H
  obtain ⟨_, rfl, H⟩ := nm_o H
  obtain ⟨_, rfl, H⟩ := nm_o H
  obtain ⟨-, H⟩ := ko_o H
  refine u_X12_init_853 H (by show hN h + 1 = 146; omega) hb ?_
  repeat (first | (with_reducible exact Z) | (with_reducible refine ZR.sR ?_) | (with_reducible refine ZR.sL ?_) | ((with_reducible refine ZR.sI ?_ ?_); omega) | (with_reducible refine ZR.nw ?_))
theorem u_X12_init_835 (H : f_X12_init_835 107 h = some (u, h1)) (hn : hN h = 144) (hb : b = 1 ∨ b = 9 ∨ b = 108 ∨ b = 141) (Z : ZR b h) : ZR b h1 := by
  unfold f_X12_init_835 at H
  obtain ⟨_, rfl, H⟩ := nm_o H
  obtain ⟨_, rfl, H⟩ := nm_o H
  obtain ⟨-, H⟩ := ko_o H
  refine u_X12_init_844 H (by show hN h + 1 = 145; omega) hb ?_
  repeat (first | (with_reducible exact Z) | (with_reducible refine ZR.sR ?_) | (with_reducible refine ZR.sL ?_) | ((with_reducible refine ZR.sI ?_ ?_); omega) | (with_reducible refine ZR.nw ?_))
theorem u_X12_init_827 (H : f_X12_init_827 107 h = some (u, h1)) (hn : hN h = 143) (hb : b = 1 ∨ b = 9 ∨ b = 108 ∨ b = 141) (Z : ZR b h) : ZR b h1 := by
  unfold f_X12_init_827 at H
  obtain ⟨_, rfl, H⟩ := nm_o H
  obtain ⟨_, rfl, H⟩ := nm_o H
  obtain ⟨-, H⟩ := ko_o H
  refine u_X12_init_835 H (by show hN h + 1 = 144; omega) hb ?_
  repeat (first | (with_reducible exact Z) | (with_reducible refine ZR.sR ?_) | (with_reducible refine ZR.sL ?_) | ((with_reducible refine ZR.sI ?_ ?_); omega) | (with_reducible refine ZR.nw ?_))
theorem u_X12_init_819 (H : f_X12_init_819 107 h = some (u, h1)) (hn : hN h = 142) (hb : b = 1 ∨ b = 9 ∨ b = 108 ∨ b = 141) (Z : ZR b h) : ZR b h1 := by
  unfold f_X12_init_819 at H
  obtain ⟨_, rfl, H⟩ := nm_o H
  obtain ⟨_, rfl, H⟩ := nm_o H
  obtain ⟨-, H⟩ := ko_o H
  refine u_X12_init_827 H (by show hN h + 1 = 143; omega) hb ?_
  repeat (first | (with_reducible exact Z) | (with_reducible refine ZR.sR ?_) | (with_reducible refine ZR.sL ?_) | ((with_reducible refine ZR.sI ?_ ?_); omega) | (with_reducible refine ZR.nw ?_))
theorem u_X12_init_810 (H : f_X12_init_810 107 h = some (u, h1)) (hn : hN h = 141) (hb : b = 1 ∨ b = 9 ∨ b = 108 ∨ b = 141) (Z : ZR b h) : ZR b h1 := by
  unfold f_X12_init_810 at H
  obtain ⟨_, rfl, H⟩ := nm_o H
  obtain ⟨_, rfl, H⟩ := nm_o H
  obtain ⟨-, H⟩ := ko_o H
  refine u_X12_init_819 H (by show hN h + 1 = 142; omega) hb ?_
  repeat (first | (with_reducible exact Z) | (with_reducible refine ZR.sR ?_) | (with_reducible refine ZR.sL ?_) | ((with_reducible refine ZR.sI ?_ ?_); omega) | (with_reducible refine ZR.nw ?_))
theorem u_X12_init_801 (H : f_X12_init_801 107 h = some (u, h1)) (hn : hN h = 140) (hb : b = 1 ∨ b = 9 ∨ b = 108 ∨ b = 141) (Z : ZR b h) : ZR b h1 := by
  unfold f_X12_init_801 at H
  obtain ⟨_, rfl, H⟩ := nm_o H
  obtain ⟨_, rfl, H⟩ := nm_o H
  obtain ⟨-, H⟩ := ko_o H
  refine u_X12_init_810 H (by show hN h + 1 = 141; omega) hb ?_
  repeat (first | (with_reducible exact Z) | (with_reducible refine ZR.sR ?_) | (with_reducible refine ZR.sL ?_) | ((with_reducible refine ZR.sI ?_ ?_); omega) | (with_reducible refine ZR.nw ?_))
theorem u_X12_init_793 (H : f_X12_init_793 107 h = some (u, h1)) (hn : hN h = 139) (hb : b = 1 ∨ b = 9 ∨ b = 108 ∨ b = 141) (Z : ZR b h) : ZR b h1 := by
  unfold f_X12_init_793 at H
  obtain ⟨_, rfl, H⟩ := nm_o H
  obtain ⟨_, rfl, H⟩ := nm_o H
  obtain ⟨-, H⟩ := ko_o H
  refine u_X12_init_801 H (by show hN h + 1 = 140; omega) hb ?_
  repeat (first | (with_reducible exact Z) | (with_reducible refine ZR.sR ?_) | (with_reducible refine ZR.sL ?_) | ((with_reducible refine ZR.sI ?_ ?_); omega) | (with_reducible refine ZR.nw ?_))
theorem u_X12_init_761 (H : f_X12_init_761 107 h = some (u, h1)) (hn : hN h = 138) (hb : b = 1 ∨ b = 9 ∨ b = 108 ∨ b = 141) (Z : ZR b h) : ZR b h1 := by
  unfold f_X12_init_761 at H
  obtain ⟨_, rfl, H⟩ := nm_o H
  obtain ⟨_, rfl, H⟩ := nm_o H
  obtain ⟨_, -, H⟩ := ka_o H
  obtain ⟨-, H⟩ := chk_o H
  obtain ⟨-, H⟩ := chk_o H
  obtain ⟨-, H⟩ := chk_o H
  obtain ⟨-, H⟩ := chk_o H
  obtain ⟨-, H⟩ := chk_o H
  obtain ⟨-, H⟩ := chk_o H
  obtain ⟨-, H⟩ := ko_o H
  refine u_X12_init_793 H (by show hN h + 1 = 139; omega) hb ?_
  repeat (first | (with_reducible exact Z) | (with_reducible refine ZR.sR ?_) | (with_reducible refine ZR.sL ?_) | ((with_reducible refine ZR.sI ?_ ?_); omega) | (with_reducible refine ZR.nw ?_))
theorem u_X12_init_753 (H : f_X12_init_753 107 h = some (u, h1)) (hn : hN h = 137) (hb : b = 1 ∨ b = 9 ∨ b = 108 ∨ b = 141) (Z : ZR b h) : ZR b h1 := by
  unfold f_X12_init_753 at H
  obtain ⟨_, rfl, H⟩ := nm_o H
  obtain ⟨_, rfl, H⟩ := nm_o H
  obtain ⟨-, H⟩ := ko_o H
  refine u_X12_init_761 H (by show hN h + 1 = 138; omega) hb ?_
  repeat (first | (with_reducible exact Z) | (with_reducible refine ZR.sR ?_) | (with_reducible refine ZR.sL ?_) | ((with_reducible refine ZR.sI ?_ ?_); omega) | (with_reducible refine ZR.nw ?_))
theorem u_X12_init_745 (H : f_X12_init_745 107 h = some (u, h1)) (hn : hN h = 136) (hb : b = 1 ∨ b = 9 ∨ b = 108 ∨ b = 141) (Z : ZR b h) : ZR b h1 := by
  unfold f_X12_init_745 at H
  obtain ⟨_, rfl, H⟩ := nm_o H
  obtain ⟨_, rfl, H⟩ := nm_o H
  obtain ⟨-, H⟩ := ko_o H
  refine u_X12_init_753 H (by show hN h + 1 = 137; omega) hb ?_
  repeat (first | (with_reducible exact Z) | (with_reducible refine ZR.sR ?_) | (with_reducible refine ZR.sL ?_) | ((with_reducible refine ZR.sI ?_ ?_); omega) | (with_reducible refine ZR.nw ?_))
theorem u_X12_init_737 (H : f_X12_init_737 107 h = some (u, h1)) (hn : hN h = 135) (hb : b = 1 ∨ b = 9 ∨ b = 108 ∨ b = 141) (Z : ZR b h) : ZR b h1 := by
  unfold f_X12_init_737 at H
  obtain ⟨_, rfl, H⟩ := nm_o H
  obtain ⟨_, rfl, H⟩ := nm_o H
  obtain ⟨-, H⟩ := ko_o H
  refine u_X12_init_745 H (by show hN h + 1 = 136; omega) hb ?_
  repeat (first | (with_reducible exact Z) | (with_reducible refine ZR.sR ?_) | (with_reducible refine ZR.sL ?_) | ((with_reducible refine ZR.sI ?_ ?_); omega) | (with_reducible refine ZR.nw ?_))
theorem u_X12_init_715 (H : f_X12_init_715 107 h = some (u, h1)) (hn : hN h = 134) (hb : b = 1 ∨ b = 9 ∨ b = 108 ∨ b = 141) (Z : ZR b h) : ZR b h1 := by
  unfold f_X12_init_715 at H
  obtain ⟨_, rfl, H⟩ := nm_o H
  obtain ⟨_, rfl, H⟩ := nm_o H
  obtain ⟨_, -, H⟩ := ka_o H
  obtain ⟨-, H⟩ := chk_o H
  obtain ⟨-, H⟩ := chk_o H
  obtain ⟨-, H⟩ := chk_o H
  obtain ⟨-, H⟩ := ko_o H
  refine u_X12_init_737 H (by show hN h + 1 = 135; omega) hb ?_
  repeat (first | (with_reducible exact Z) | (with_reducible refine ZR.sR ?_) | (with_reducible refine ZR.sL ?_) | ((with_reducible refine ZR.sI ?_ ?_); omega) | (with_reducible refine ZR.nw ?_))
theorem u_X12_init_693 (H : f_X12_init_693 107 h = some (u, h1)) (hn : hN h = 133) (hb : b = 1 ∨ b = 9 ∨ b = 108 ∨ b = 141) (Z : ZR b h) : ZR b h1 := by
  unfold f_X12_init_693 at H
  obtain ⟨_, rfl, H⟩ := nm_o H
  obtain ⟨_, rfl, H⟩ := nm_o H
  obtain ⟨_, -, H⟩ := ka_o H
  obtain ⟨-, H⟩ := chk_o H
  obtain ⟨-, H⟩ := chk_o H
  obtain ⟨-, H⟩ := chk_o H
  obtain ⟨-, H⟩ := ko_o H
  refine u_X12_init_715 H (by show hN h + 1 = 134; omega) hb ?_
  repeat (first | (with_reducible exact Z) | (with_reducible refine ZR.sR ?_) | (with_reducible refine ZR.sL ?_) | ((with_reducible refine ZR.sI ?_ ?_); omega) | (with_reducible refine ZR.nw ?_))
theorem u_X12_init_671 (H : f_X12_init_671 107 h = some (u, h1)) (hn : hN h = 132) (hb : b = 1 ∨ b = 9 ∨ b = 108 ∨ b = 141) (Z : ZR b h) : ZR b h1 := by
  unfold f_X12_init_671 at H
  obtain ⟨_, rfl, H⟩ := nm_o H
  obtain ⟨_, rfl, H⟩ := nm_o H
  obtain ⟨_, -, H⟩ := ka_o H
  obtain ⟨-, H⟩ := chk_o H
  obtain ⟨-, H⟩ := chk_o H
  obtain ⟨-, H⟩ := chk_o H
  obtain ⟨-, H⟩ := ko_o H
  refine u_X12_init_693 H (by show hN h + 1 = 133; omega) hb ?_
  repeat (first | (with_reducible exact Z) | (with_reducible refine ZR.sR ?_) | (with_reducible refine ZR.sL ?_) | ((with_reducible refine ZR.sI ?_ ?_); omega) | (with_reducible refine ZR.nw ?_))
theorem u_X12_init_649 (H : f_X12_init_649 107 h = some (u, h1)) (hn : hN h = 131) (hb : b = 1 ∨ b = 9 ∨ b = 108 ∨ b = 141) (Z : ZR b h) : ZR b h1 := by
  unfold f_X12_init_649 at H
  obtain ⟨_, rfl, H⟩ := nm_o H
  obtain ⟨_, rfl, H⟩ := nm_o H
  obtain ⟨_, -, H⟩ := ka_o H
  obtain ⟨-, H⟩ := chk_o H
  obtain ⟨-, H⟩ := chk_o H
  obtain ⟨-, H⟩ := chk_o H
  obtain ⟨-, H⟩ := ko_o H
  refine u_X12_init_671 H (by show hN h + 1 = 132; omega) hb ?_
  repeat (first | (with_reducible exact Z) | (with_reducible refine ZR.sR ?_) | (with_reducible refine ZR.sL ?_) | ((with_reducible refine ZR.sI ?_ ?_); omega) | (with_reducible refine ZR.nw ?_))
theorem u_X12_init_627 (H : f_X12_init_627 107 h = some (u, h1)) (hn : hN h = 130) (hb : b = 1 ∨ b = 9 ∨ b = 108 ∨ b = 141) (Z : ZR b h) : ZR b h1 := by
  unfold f_X12_init_627 at H
  obtain ⟨_, rfl, H⟩ := nm_o H
  obtain ⟨_, rfl, H⟩ := nm_o H
  obtain ⟨_, -, H⟩ := ka_o H
  obtain ⟨-, H⟩ := chk_o H
  obtain ⟨-, H⟩ := chk_o H
  obtain ⟨-, H⟩ := chk_o H
  obtain ⟨-, H⟩ := ko_o H
  refine u_X12_init_649 H (by show hN h + 1 = 131; omega) hb ?_
  repeat (first | (with_reducible exact Z) | (with_reducible refine ZR.sR ?_) | (with_reducible refine ZR.sL ?_) | ((with_reducible refine ZR.sI ?_ ?_); omega) | (with_reducible refine ZR.nw ?_))
theorem u_X12_init_610 (H : f_X12_init_610 107 h = some (u, h1)) (hn : hN h = 129) (hb : b = 1 ∨ b = 9 ∨ b = 108 ∨ b = 141) (Z : ZR b h) : ZR b h1 := by
  unfold f_X12_init_610 at H
  obtain ⟨_, rfl, H⟩ := nm_o H
  obtain ⟨_, rfl, H⟩ := nm_o H
  obtain ⟨_, -, H⟩ := ka_o H
  obtain ⟨-, H⟩ := chk_o H
  obtain ⟨-, H⟩ := chk_o H
  obtain ⟨-, H⟩ := ko_o H
  refine u_X12_init_627 H (by show hN h + 1 = 130; omega) hb ?_
  repeat (first | (with_reducible exact Z) | (with_reducible refine ZR.sR ?_) | (with_reducible refine ZR.sL ?_) | ((with_reducible refine ZR.sI ?_ ?_); omega) | (with_reducible refine ZR.nw ?_))
theorem u_X12_init_583 (H : f_X12_init_583 107 h = some (u, h1)) (hn : hN h = 128) (hb : b = 1 ∨ b = 9 ∨ b = 108 ∨ b = 141) (Z : ZR b h) : ZR b h1 := by
  unfold f_X12_init_583 at H
  obtain ⟨_, rfl, H⟩ := nm_o H
  obtain ⟨_, rfl, H⟩ := nm_o H
  obtain ⟨_, -, H⟩ := ka_o H
  obtain ⟨-, H⟩ := chk_o H
  obtain ⟨-, H⟩ := chk_o H
  obtain ⟨-, H⟩ := chk_o H
  obtain ⟨-, H⟩ := chk_o H
  obtain ⟨-, H⟩ := ko_o H
  refine u_X12_init_610 H (by show hN h + 1 = 129; omega) hb ?_
  repeat (first | (with_reducible exact Z) | (with_reducible refine ZR.sR ?_) | (with_reducible refine ZR.sL ?_) | ((with_reducible refine ZR.sI ?_ ?_); omega) | (with_reducible refine ZR.nw ?_))
theorem u_X12_init_556 (H : f_X12_init_556 107 h = some (u, h1)) (hn : hN h = 127) (hb : b = 1 ∨ b = 9 ∨ b = 108 ∨ b = 141) (Z : ZR b h) : ZR b h1 := by
  unfold f_X12_init_556 at H
  obtain ⟨_, rfl, H⟩ := nm_o H
  obtain ⟨_, rfl, H⟩ := nm_o H
  obtain ⟨_, -, H⟩ := ka_o H
  obtain ⟨-, H⟩ := chk_o H
  obtain ⟨-, H⟩ := chk_o H
  obtain ⟨-, H⟩ := chk_o H
  obtain ⟨-, H⟩ := chk_o H
  obtain ⟨-, H⟩ := ko_o H
  refine u_X12_init_583 H (by show hN h + 1 = 128; omega) hb ?_
  repeat (first | (with_reducible exact Z) | (with_reducible refine ZR.sR ?_) | (with_reducible refine ZR.sL ?_) | ((with_reducible refine ZR.sI ?_ ?_); omega) | (with_reducible refine ZR.nw ?_))
theorem u_X12_init_524 (H : f_X12_init_524 107 h = some (u, h1)) (hn : hN h = 126) (hb : b = 1 ∨ b = 9 ∨ b = 108 ∨ b = 141) (Z : ZR b h) : ZR b h1 := by
  unfold f_X12_init_524 at H
  obtain ⟨_, rfl, H⟩ := nm_o H
  obtain ⟨_, rfl, H⟩ := nm_o H
  obtain ⟨_, -, H⟩ := ka_o H
  obtain ⟨-, H⟩ := chk_o H
  obtain ⟨-, H⟩ := chk_o H
  obtain ⟨-, H⟩ := chk_o H
  obtain ⟨-, H⟩ := chk_o H
  obtain ⟨-, H⟩ := chk_o H
  obtain ⟨-, H⟩ := ko_o H
  refine u_X12_init_556 H (by show hN h + 1 = 127; omega) hb ?_
  repeat (first | (with_reducible exact Z) | (with_reducible refine ZR.sR ?_) | (with_reducible refine ZR.sL ?_) | ((with_reducible refine ZR.sI ?_ ?_); omega) | (with_reducible refine ZR.nw ?_))
theorem u_X12_init_502 (H : f_X12_init_502 107 h = some (u, h1)) (hn : hN h = 125) (hb : b = 1 ∨ b = 9 ∨ b = 108 ∨ b = 141) (Z : ZR b h) : ZR b h1 := by
  unfold f_X12_init_502 at H
  obtain ⟨_, rfl, H⟩ := nm_o H
  obtain ⟨_, rfl, H⟩ := nm_o H
  obtain ⟨_, -, H⟩ := ka_o H
  obtain ⟨-, H⟩ := chk_o H
  obtain ⟨-, H⟩ := chk_o H
  obtain ⟨-, H⟩ := chk_o H
  obtain ⟨-, H⟩ := ko_o H
  refine u_X12_init_524 H (by show hN h + 1 = 126; omega) hb ?_
  repeat (first | (with_reducible exact Z) | (with_reducible refine ZR.sR ?_) | (with_reducible refine ZR.sL ?_) | ((with_reducible refine ZR.sI ?_ ?_); omega) | (with_reducible refine ZR.nw ?_))
theorem u_X12_init_464 (H : f_X12_init_464 107 h = some (u, h1)) (hn : hN h = 124) (hb : b = 1 ∨ b = 9 ∨ b = 108 ∨ b = 141) (Z : ZR b h) : ZR b h1 := by
  unfold f_X12_init_464 at H
  obtain ⟨_, rfl, H⟩ := nm_o H
  obtain ⟨_, rfl, H⟩ := nm_o H
  obtain ⟨_, -, H⟩ := ka_o H
  obtain ⟨-, H⟩ := chk_o H
  obtain ⟨-, H⟩ := chk_o H
  obtain ⟨-, H⟩ := chk_o H
  obtain ⟨-, H⟩ := chk_o H
  obtain ⟨-, H⟩ := chk_o H
  obtain ⟨-, H⟩ := chk_o H
  obtain ⟨-, H⟩ := ko_o H
  refine u_X12_init_502 H (by show hN h + 1 = 125; omega) hb ?_
  repeat (first | (with_reducible exact Z) | (with_reducible refine ZR.sR ?_) | (with_reducible refine ZR.sL ?_) | ((with_reducible refine ZR.sI ?_ ?_); omega) | (with_reducible refine ZR.nw ?_))
theorem u_X12_init_432 (H : f_X12_init_432 107 h = some (u, h1)) (hn : hN h = 123) (hb : b = 1 ∨ b = 9 ∨ b = 108 ∨ b = 141) (Z : ZR b h) : ZR b h1 := by
  unfold f_X12_init_432 at H
  obtain ⟨_, rfl, H⟩ := nm_o H
  obtain ⟨_, rfl, H⟩ := nm_o H
  obtain ⟨_, -, H⟩ := ka_o H
  obtain ⟨-, H⟩ := chk_o H
  obtain ⟨-, H⟩ := chk_o H
  obtain ⟨-, H⟩ := chk_o H
  obtain ⟨-, H⟩ := chk_o H
  obtain ⟨-, H⟩ := chk_o H
  obtain ⟨-, H⟩ := ko_o H
  refine u_X12_init_464 H (by show hN h + 1 = 124; omega) hb ?_
  repeat (first | (with_reducible exact Z) | (with_reducible refine ZR.sR ?_) | (with_reducible refine ZR.sL ?_) | ((with_reducible refine ZR.sI ?_ ?_); omega) | (with_reducible refine ZR.nw ?_))
theorem u_X12_init_394 (H : f_X12_init_394 107 h = some (u, h1)) (hn : hN h = 122) (hb : b = 1 ∨ b = 9 ∨ b = 108 ∨ b = 141) (Z : ZR b h) : ZR b h1 := by
  unfold f_X12_init_394 at H
  obtain ⟨_, rfl, H⟩ := nm_o H
  obtain ⟨_, rfl, H⟩ := nm_o H
  obtain ⟨_, -, H⟩ := ka_o H
  obtain ⟨-, H⟩ := chk_o H
  obtain ⟨-, H⟩ := chk_o H
  obtain ⟨-, H⟩ := chk_o H
  obtain ⟨-, H⟩ := chk_o H
  obtain ⟨-, H⟩ := chk_o H
  obtain ⟨-, H⟩ := chk_o H
  obtain ⟨-, H⟩ := ko_o H
  refine u_X12_init_432 H (by show hN h + 1 = 123; omega) hb ?_
  repeat (first | (with_reducible exact Z) | (with_reducible refine ZR.sR ?_) | (with_reducible refine ZR.sL ?_) | ((with_reducible refine ZR.sI ?_ ?_); omega) | (with_reducible refine ZR.nw ?_))
theorem u_X12_init_367 (H : f_X12_init_367 107 h = some (u, h1)) (hn : hN h = 121) (hb : b = 1 ∨ b = 9 ∨ b = 108 ∨ b = 141) (Z : ZR b h) : ZR b h1 := by
  unfold f_X12_init_367 at H
  obtain ⟨_, rfl, H⟩ := nm_o H
  obtain ⟨_, rfl, H⟩ := nm_o H
  obtain ⟨_, -, H⟩ := ka_o H
  obtain ⟨-, H⟩ := chk_o H
  obtain ⟨-, H⟩ := chk_o H
  obtain ⟨-, H⟩ := chk_o H
  obtain ⟨-, H⟩ := chk_o H
  obtain ⟨-, H⟩ := ko_o H
  refine u_X12_init_394 H (by show hN h + 1 = 122; omega) hb ?_
  repeat (first | (with_reducible exact Z) | (with_reducible refine ZR.sR ?_) | (with_reducible refine ZR.sL ?_) | ((with_reducible refine ZR.sI ?_ ?_); omega) | (with_reducible refine ZR.nw ?_))
theorem u_X12_init_350 (H : f_X12_init_350 107 h = some (u, h1)) (hn : hN h = 120) (hb : b = 1 ∨ b = 9 ∨ b = 108 ∨ b = 141) (Z : ZR b h) : ZR b h1 := by
  unfold f_X12_init_350 at H
  obtain ⟨_, rfl, H⟩ := nm_o H
  obtain ⟨_, rfl, H⟩ := nm_o H
  obtain ⟨_, -, H⟩ := ka_o H
  obtain ⟨-, H⟩ := chk_o H
  obtain ⟨-, H⟩ := chk_o H
  obtain ⟨-, H⟩ := ko_o H
  refine u_X12_init_367 H (by show hN h + 1 = 121; omega) hb ?_
  repeat (first | (with_reducible exact Z) | (with_reducible refine ZR.sR ?_) | (with_reducible refine ZR.sL ?_) | ((with_reducible refine ZR.sI ?_ ?_); omega) | (with_reducible refine ZR.nw ?_))
theorem u_X12_init_323 (H : f_X12_init_323 107 h = some (u, h1)) (hn : hN h = 119) (hb : b = 1 ∨ b = 9 ∨ b = 108 ∨ b = 141) (Z : ZR b h) : ZR b h1 := by
  unfold f_X12_init_323 at H
  obtain ⟨_, rfl, H⟩ := nm_o H
  obtain ⟨_, rfl, H⟩ := nm_o H
  obtain ⟨_, -, H⟩ := ka_o H
  obtain ⟨-, H⟩ := chk_o H
  obtain ⟨-, H⟩ := chk_o H
  obtain ⟨-, H⟩ := chk_o H
  obtain ⟨-, H⟩ := chk_o H
  obtain ⟨-, H⟩ := ko_o H
  refine u_X12_init_350 H (by show hN h + 1 = 120; omega) hb ?_
  repeat (first | (with_reducible exact Z) | (with_reducible refine ZR.sR ?_) | (with_reducible refine ZR.sL ?_) | ((with_reducible refine ZR.sI ?_ ?_); omega) | (with_reducible refine ZR.nw ?_))
theorem u_X12_init_291 (H : f_X12_init_291 107 h = some (u, h1)) (hn : hN h = 118) (hb : b = 1 ∨ b = 9 ∨ b = 108 ∨ b = 141) (Z : ZR b h) : ZR b h1 := by
  unfold f_X12_init_291 at H
  obtain ⟨_, rfl, H⟩ := nm_o H
  obtain ⟨_, rfl, H⟩ := nm_o H
  obtain ⟨_, -, H⟩ := ka_o H
  obtain ⟨-, H⟩ := chk_o H
  obtain ⟨-, H⟩ := chk_o H
  obtain ⟨-, H⟩ := chk_o H
  obtain ⟨-, H⟩ := chk_o H
  obtain ⟨-, H⟩ := chk_o H
  obtain ⟨-, H⟩ := ko_o H
  refine u_X12_init_323 H (by show hN h + 1 = 119; omega) hb ?_
  repeat (first | (with_reducible exact Z) | (with_reducible refine ZR.sR ?_) | (with_reducible refine ZR.sL ?_) | ((with_reducible refine ZR.sI ?_ ?_); omega) | (with_reducible refine ZR.nw ?_))
theorem u_X12_init_264 (H : f_X12_init_264 107 h = some (u, h1)) (hn : hN h = 117) (hb : b = 1 ∨ b = 9 ∨ b = 108 ∨ b = 141) (Z : ZR b h) : ZR b h1 := by
  unfold f_X12_init_264 at H
  obtain ⟨_, rfl, H⟩ := nm_o H
  obtain ⟨_, rfl, H⟩ := nm_o H
  obtain ⟨_, -, H⟩ := ka_o H
  obtain ⟨-, H⟩ := chk_o H
  obtain ⟨-, H⟩ := chk_o H
  obtain ⟨-, H⟩ := chk_o H
  obtain ⟨-, H⟩ := chk_o H
  obtain ⟨-, H⟩ := ko_o H
  refine u_X12_init_291 H (by show hN h + 1 = 118; omega) hb ?_
  repeat (first | (with_reducible exact Z) | (with_reducible refine ZR.sR ?_) | (with_reducible refine ZR.sL ?_) | ((with_reducible refine ZR.sI ?_ ?_); omega) | (with_reducible refine ZR.nw ?_))
theorem u_X12_init_232 (H : f_X12_init_232 107 h = some (u, h1)) (hn : hN h = 116) (hb : b = 1 ∨ b = 9 ∨ b = 108 ∨ b = 141) (Z : ZR b h) : ZR b h1 := by
  unfold f_X12_init_232 at H
  obtain ⟨_, rfl, H⟩ := nm_o H
  obtain ⟨_, rfl, H⟩ := nm_o H
  obtain ⟨_, -, H⟩ := ka_o H
  obtain ⟨-, H⟩ := chk_o H
  obtain ⟨-, H⟩ := chk_o H
  obtain ⟨-, H⟩ := chk_o H
  obtain ⟨-, H⟩ := chk_o H
  obtain ⟨-, H⟩ := chk_o H
  obtain ⟨-, H⟩ := ko_o H
  refine u_X12_init_264 H (by show hN h + 1 = 117; omega) hb ?_
  repeat (first | (with_reducible exact Z) | (with_reducible refine ZR.sR ?_) | (with_reducible refine ZR.sL ?_) | ((with_reducible refine ZR.sI ?_ ?_); omega) | (with_reducible refine ZR.nw ?_))
theorem u_X12_init_205 (H : f_X12_init_205 107 h = some (u, h1)) (hn : hN h = 115) (hb : b = 1 ∨ b = 9 ∨ b = 108 ∨ b = 141) (Z : ZR b h) : ZR b h1 := by
  unfold f_X12_init_205 at H
  obtain ⟨_, rfl, H⟩ := nm_o H
  obtain ⟨_, rfl, H⟩ := nm_o H
  obtain ⟨_, -, H⟩ := ka_o H
  obtain ⟨-, H⟩ := chk_o H
  obtain ⟨-, H⟩ := chk_o H
  obtain ⟨-, H⟩ := chk_o H
  obtain ⟨-, H⟩ := chk_o H
  obtain ⟨-, H⟩ := ko_o H
  refine u_X12_init_232 H (by show hN h + 1 = 116; omega) hb ?_
  repeat (first | (with_reducible exact Z) | (with_reducible refine ZR.sR ?_) | (with_reducible refine ZR.sL ?_) | ((with_reducible refine ZR.sI ?_ ?_); omega) | (with_reducible refine ZR.nw ?_))
theorem u_X12_init_173 (H : f_X12_init_173 107 h = some (u, h1)) (hn : hN h = 114) (hb : b = 1 ∨ b = 9 ∨ b = 108 ∨ b = 141) (Z : ZR b h) : ZR b h1 := by
  unfold f_X12_init_173 at H
  obtain ⟨_, rfl, H⟩ := nm_o H
  obtain ⟨_, rfl, H⟩ := nm_o H
  obtain ⟨_, -, H⟩ := ka_o H
  obtain ⟨-, H⟩ := chk_o H
  obtain ⟨-, H⟩ := chk_o H
  obtain ⟨-, H⟩ := chk_o H
  obtain ⟨-, H⟩ := chk_o H
  obtain ⟨-, H⟩ := chk_o H
  obtain ⟨-, H⟩ := ko_o H
  refine u_X12_init_205 H (by show hN h + 1 = 115; omega) hb ?_
  repeat (first | (with_reducible exact Z) | (with_reducible refine ZR.sR ?_) | (with_reducible refine ZR.sL ?_) | ((with_reducible refine ZR.sI ?_ ?_); omega) | (with_reducible refine ZR.nw ?_))
theorem u_X12_init_146 (H : f_X12_init_146 107 h = some (u, h1)) (hn : hN h = 113) (hb : b = 1 ∨ b = 9 ∨ b = 108 ∨ b = 141) (Z : ZR b h) : ZR b h1 := by
  unfold f_X12_init_146 at H
  obtain ⟨_, rfl, H⟩ := nm_o H
  obtain ⟨_, rfl, H⟩ := nm_o H
  obtain ⟨_, -, H⟩ := ka_o H
  obtain ⟨-, H⟩ := chk_o H
  obtain ⟨-, H⟩ := chk_o H
  obtain ⟨-, H⟩ := chk_o H
  obtain ⟨-, H⟩ := chk_o H
  obtain ⟨-, H⟩ := ko_o H
  refine u_X12_init_173 H (by show hN h + 1 = 114; omega) hb ?_
  repeat (first | (with_reducible exact Z) | (with_reducible refine ZR.sR ?_) | (with_reducible refine ZR.sL ?_) | ((with_reducible refine ZR.sI ?_ ?_); omega) | (with_reducible refine ZR.nw ?_))
theorem u_X12_init_114 (H : f_X12_init_114 107 h = some (u, h1)) (hn : hN h = 112) (hb : b = 1 ∨ b = 9 ∨ b = 108 ∨ b = 141) (Z : ZR b h) : ZR b h1 := by
  unfold f_X12_init_114 at H
  obtain ⟨_, rfl, H⟩ := nm_o H
  obtain ⟨_, rfl, H⟩ := nm_o H
  obtain ⟨_, -, H⟩ := ka_o H
  obtain ⟨-, H⟩ := chk_o H
  obtain ⟨-, H⟩ := chk_o H
  obtain ⟨-, H⟩ := chk_o H
  obtain ⟨-, H⟩ := chk_o H
  obtain ⟨-, H⟩ := chk_o H
  obtain ⟨-, H⟩ := ko_o H
  refine u_X12_init_146 H (by show hN h + 1 = 113; omega) hb ?_
  repeat (first | (with_reducible exact Z) | (with_reducible refine ZR.sR ?_) | (with_reducible refine ZR.sL ?_) | ((with_reducible refine ZR.sI ?_ ?_); omega) | (with_reducible refine ZR.nw ?_))
theorem u_X12_init_64 (H : f_X12_init_64 107 h = some (u, h1)) (hn : hN h = 111) (hb : b = 1 ∨ b = 9 ∨ b = 108 ∨ b = 141) (Z : ZR b h) : ZR b h1 := by
  unfold f_X12_init_64 at H
  obtain ⟨_, rfl, H⟩ := nm_o H
  obtain ⟨_, rfl, H⟩ := nm_o H
  obtain ⟨_, -, H⟩ := ka_o H
  obtain ⟨-, H⟩ := chk_o H
  obtain ⟨-, H⟩ := chk_o H
  obtain ⟨-, H⟩ := chk_o H
  obtain ⟨-, H⟩ := chk_o H
  obtain ⟨-, H⟩ := chk_o H
  obtain ⟨-, H⟩ := chk_o H
  obtain ⟨-, H⟩ := chk_o H
  obtain ⟨-, H⟩ := chk_o H
  obtain ⟨-, H⟩ := ko_o H
  refine u_X12_init_114 H (by show hN h + 1 = 112; omega) hb ?_
  repeat (first | (with_reducible exact Z) | (with_reducible refine ZR.sR ?_) | (with_reducible refine ZR.sL ?_) | ((with_reducible refine ZR.sI ?_ ?_); omega) | (with_reducible refine ZR.nw ?_))
theorem u_X12_init_26 (H : f_X12_init_26 107 h = some (u, h1)) (hn : hN h = 110) (hb : b = 1 ∨ b = 9 ∨ b = 108 ∨ b = 141) (Z : ZR b h) : ZR b h1 := by
  unfold f_X12_init_26 at H
  obtain ⟨_, rfl, H⟩ := nm_o H
  obtain ⟨_, rfl, H⟩ := nm_o H
  obtain ⟨_, -, H⟩ := ka_o H
  obtain ⟨-, H⟩ := chk_o H
  obtain ⟨-, H⟩ := chk_o H
  obtain ⟨-, H⟩ := chk_o H
  obtain ⟨-, H⟩ := chk_o H
  obtain ⟨-, H⟩ := chk_o H
  obtain ⟨-, H⟩ := chk_o H
  obtain ⟨-, H⟩ := ko_o H
  refine u_X12_init_64 H (by show hN h + 1 = 111; omega) hb ?_
  repeat (first | (with_reducible exact Z) | (with_reducible refine ZR.sR ?_) | (with_reducible refine ZR.sL ?_) | ((with_reducible refine ZR.sI ?_ ?_); omega) | (with_reducible refine ZR.nw ?_))
theorem u_X12_init_18 (H : f_X12_init_18 107 h = some (u, h1)) (hn : hN h = 109) (hb : b = 1 ∨ b = 9 ∨ b = 108 ∨ b = 141) (Z : ZR b h) : ZR b h1 := by
  unfold f_X12_init_18 at H
  obtain ⟨_, rfl, H⟩ := nm_o H
  obtain ⟨_, rfl, H⟩ := nm_o H
  obtain ⟨-, H⟩ := ko_o H
  refine u_X12_init_26 H (by show hN h + 1 = 110; omega) hb ?_
  repeat (first | (with_reducible exact Z) | (with_reducible refine ZR.sR ?_) | (with_reducible refine ZR.sL ?_) | ((with_reducible refine ZR.sI ?_ ?_); omega) | (with_reducible refine ZR.nw ?_))
theorem u_X12_init_13 (H : f_X12_init_13 107 h = some (u, h1)) (hn : hN h = 109) (hb : b = 1 ∨ b = 9 ∨ b = 108 ∨ b = 141) (Z : ZR b h) : ZR b h1 := by
  unfold f_X12_init_13 at H
  obtain ⟨-, H⟩ := ko_o H
  refine u_X12_init_18 H (by show hN h = 109; omega) hb ?_
  repeat (first | (with_reducible exact Z) | (with_reducible refine ZR.sR ?_) | (with_reducible refine ZR.sL ?_) | ((with_reducible refine ZR.sI ?_ ?_); omega) | (with_reducible refine ZR.nw ?_))
theorem u_X12_init (H : f_X12_init 107 h = some (u, h1)) (hn : hN h = 108) (hb : b = 1 ∨ b = 9 ∨ b = 108 ∨ b = 141) (Z : ZR b h) : ZR b h1 := by
  unfold f_X12_init at H
  obtain ⟨_, rfl, H⟩ := nm_o H
  obtain ⟨_, rfl, H⟩ := nm_o H
  obtain ⟨-, H⟩ := ko_o H
  refine u_X12_init_13 H (by show hN h + 1 = 109; omega) hb ?_
  repeat (first | (with_reducible exact Z) | (with_reducible refine ZR.sR ?_) | (with_reducible refine ZR.sL ?_) | ((with_reducible refine ZR.sI ?_ ?_); omega) | (with_reducible refine ZR.nw ?_))
end Zu
theorem g2H_z {b : Nat} (hb : b = 1 ∨ b = 9 ∨ b = 108 ∨ b = 141) (j : Nat) : hI g2H b j = 0 := by
  have Z0 : ZR b g00 := fun _ => rfl
  have Z1 : ZR b g1H := u_X11 g1H_e rfl hb (ZR.nw Z0)
  exact u_X12_init g2H_e (by show hN g1H + 1 = 108; rw [g1H_n]) hb (ZR.nw Z1) j
