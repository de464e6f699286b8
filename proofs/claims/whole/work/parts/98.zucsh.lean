/-! THE START: the reference's first cells, on a heap that is moved -/
section Ph
variable {z : Nat}
theorem e_X12_init_1576 (g : aH) : f_X12_init_1576 (mvH z g) = mp z (f_X12_init_1576 g) := rfl
theorem e_X12_init_1567 (a : Nat) (g : aH) : f_X12_init_1567 (z + a) (mvH z g) = mp z (f_X12_init_1567 a g) := by
  unfold f_X12_init_1567
  refine nm_cN ?_
  refine nm_cH ?_
  refine ko_c ?_
  simp only [sI_sh, sR_sh, sRn_sh, sL_sh]
  exact e_X12_init_1576 _
theorem e_X12_init_1558 (a : Nat) (g : aH) : f_X12_init_1558 (z + a) (mvH z g) = mp z (f_X12_init_1558 a g) := by
  unfold f_X12_init_1558
  refine nm_cN ?_
  refine nm_cH ?_
  refine ko_c ?_
  simp only [sI_sh, sR_sh, sRn_sh, sL_sh]
  exact e_X12_init_1567 _ _
theorem e_X12_init_1549 (a : Nat) (g : aH) : f_X12_init_1549 (z + a) (mvH z g) = mp z (f_X12_init_1549 a g) := by
  unfold f_X12_init_1549
  refine nm_cN ?_
  refine nm_cH ?_
  refine ko_c ?_
  simp only [sI_sh, sR_sh, sRn_sh, sL_sh]
  exact e_X12_init_1558 _ _
theorem e_X12_init_1540 (a : Nat) (g : aH) : f_X12_init_1540 (z + a) (mvH z g) = mp z (f_X12_init_1540 a g) := by
  unfold f_X12_init_1540
  refine nm_cN ?_
  refine nm_cH ?_
  refine ko_c ?_
  simp only [sI_sh, sR_sh, sRn_sh, sL_sh]
  exact e_X12_init_1549 _ _
theorem e_X12_init_1513 (a : Nat) (g : aH) : f_X12_init_1513 (z + a) (mvH z g) = mp z (f_X12_init_1513 a g) := by
  unfold f_X12_init_1513
  refine nm_cN ?_
  refine nm_cH ?_
  refine ka_c (fun _ => ?_)
  refine chk_c ?_
  refine chk_c ?_
  refine chk_c ?_
  refine chk_c ?_
  refine ko_c ?_
  simp only [sI_sh, sR_sh, sRn_sh, sL_sh]
  exact e_X12_init_1540 _ _
theorem e_X12_init_1486 (a : Nat) (g : aH) : f_X12_init_1486 (z + a) (mvH z g) = mp z (f_X12_init_1486 a g) := by
  unfold f_X12_init_1486
  refine nm_cN ?_
  refine nm_cH ?_
  refine ka_c (fun _ => ?_)
  refine chk_c ?_
  refine chk_c ?_
  refine chk_c ?_
  refine chk_c ?_
  refine ko_c ?_
  simp only [sI_sh, sR_sh, sRn_sh, sL_sh]
  exact e_X12_init_1513 _ _
theorem e_X12_init_1454 (a : Nat) (g : aH) : f_X12_init_1454 (z + a) (mvH z g) = mp z (f_X12_init_1454 a g) := by
  unfold f_X12_init_1454
  refine nm_cN ?_
  refine nm_cH ?_
  refine ka_c (fun _ => ?_)
  refine chk_c ?_
  refine chk_c ?_
  refine chk_c ?_
  refine chk_c ?_
  refine chk_c ?_
  refine ko_c ?_
  simp only [sI_sh, sR_sh, sRn_sh, sL_sh]
  exact e_X12_init_1486 _ _
theorem e_X12_init_1427 (a : Nat) (g : aH) : f_X12_init_1427 (z + a) (mvH z g) = mp z (f_X12_init_1427 a g) := by
  unfold f_X12_init_1427
  refine nm_cN ?_
  refine nm_cH ?_
  refine ka_c (fun _ => ?_)
  refine chk_c ?_
  refine chk_c ?_
  refine chk_c ?_
  refine chk_c ?_
  refine ko_c ?_
  simp only [sI_sh, sR_sh, sRn_sh, sL_sh]
  exact e_X12_init_1454 _ _
theorem e_X12_init_1405 (a : Nat) (g : aH) : f_X12_init_1405 (z + a) (mvH z g) = mp z (f_X12_init_1405 a g) := by
  unfold f_X12_init_1405
  refine nm_cN ?_
  refine nm_cH ?_
  refine ka_c (fun _ => ?_)
  refine chk_c ?_
  refine chk_c ?_
  refine chk_c ?_
  refine ko_c ?_
  simp only [sI_sh, sR_sh, sRn_sh, sL_sh]
  exact e_X12_init_1427 _ _
theorem e_X12_init_1367 (a : Nat) (g : aH) : f_X12_init_1367 (z + a) (mvH z g) = mp z (f_X12_init_1367 a g) := by
  unfold f_X12_init_1367
  refine nm_cN ?_
  refine nm_cH ?_
  refine ka_c (fun _ => ?_)
  refine chk_c ?_
  refine chk_c ?_
  refine chk_c ?_
  refine chk_c ?_
  refine chk_c ?_
  refine chk_c ?_
  refine ko_c ?_
  simp only [sI_sh, sR_sh, sRn_sh, sL_sh]
  exact e_X12_init_1405 _ _
theorem e_X12_init_1335 (a : Nat) (g : aH) : f_X12_init_1335 (z + a) (mvH z g) = mp z (f_X12_init_1335 a g) := by
  unfold f_X12_init_1335
  refine nm_cN ?_
  refine nm_cH ?_
  refine ka_c (fun _ => ?_)
  refine chk_c ?_
  refine chk_c ?_
  refine chk_c ?_
  refine chk_c ?_
  refine chk_c ?_
  refine ko_c ?_
  simp only [sI_sh, sR_sh, sRn_sh, sL_sh]
  exact e_X12_init_1367 _ _
theorem e_X12_init_1297 (a : Nat) (g : aH) : f_X12_init_1297 (z + a) (mvH z g) = mp z (f_X12_init_1297 a g) := by
  unfold f_X12_init_1297
  refine nm_cN ?_
  refine nm_cH ?_
  refine ka_c (fun _ => ?_)
  refine chk_c ?_
  refine chk_c ?_
  refine chk_c ?_
  refine chk_c ?_
  refine chk_c ?_
  refine chk_c ?_
  refine ko_c ?_
  simp only [sI_sh, sR_sh, sRn_sh, sL_sh]
  exact e_X12_init_1335 _ _
theorem e_X12_init_1270 (a : Nat) (g : aH) : f_X12_init_1270 (z + a) (mvH z g) = mp z (f_X12_init_1270 a g) := by
  unfold f_X12_init_1270
  refine nm_cN ?_
  refine nm_cH ?_
  refine ka_c (fun _ => ?_)
  refine chk_c ?_
  refine chk_c ?_
  refine chk_c ?_
  refine chk_c ?_
  refine ko_c ?_
  simp only [sI_sh, sR_sh, sRn_sh, sL_sh]
  exact e_X12_init_1297 _ _
theorem e_X12_init_1253 (a : Nat) (g : aH) : f_X12_init_1253 (z + a) (mvH z g) = mp z (f_X12_init_1253 a g) := by
  unfold f_X12_init_1253
  refine nm_cN ?_
  refine nm_cH ?_
  refine ka_c (fun _ => ?_)
  refine chk_c ?_
  refine chk_c ?_
  refine ko_c ?_
  simp only [sI_sh, sR_sh, sRn_sh, sL_sh]
  exact e_X12_init_1270 _ _
theorem e_X12_init_1226 (a : Nat) (g : aH) : f_X12_init_1226 (z + a) (mvH z g) = mp z (f_X12_init_1226 a g) := by
  unfold f_X12_init_1226
  refine nm_cN ?_
  refine nm_cH ?_
  refine ka_c (fun _ => ?_)
  refine chk_c ?_
  refine chk_c ?_
  refine chk_c ?_
  refine chk_c ?_
  refine ko_c ?_
  simp only [sI_sh, sR_sh, sRn_sh, sL_sh]
  exact e_X12_init_1253 _ _
theorem e_X12_init_1194 (a : Nat) (g : aH) : f_X12_init_1194 (z + a) (mvH z g) = mp z (f_X12_init_1194 a g) := by
  unfold f_X12_init_1194
  refine nm_cN ?_
  refine nm_cH ?_
  refine ka_c (fun _ => ?_)
  refine chk_c ?_
  refine chk_c ?_
  refine chk_c ?_
  refine chk_c ?_
  refine chk_c ?_
  refine ko_c ?_
  simp only [sI_sh, sR_sh, sRn_sh, sL_sh]
  exact e_X12_init_1226 _ _
theorem e_X12_init_1167 (a : Nat) (g : aH) : f_X12_init_1167 (z + a) (mvH z g) = mp z (f_X12_init_1167 a g) := by
  unfold f_X12_init_1167
  refine nm_cN ?_
  refine nm_cH ?_
  refine ka_c (fun _ => ?_)
  refine chk_c ?_
  refine chk_c ?_
  refine chk_c ?_
  refine chk_c ?_
  refine ko_c ?_
  simp only [sI_sh, sR_sh, sRn_sh, sL_sh]
  exact e_X12_init_1194 _ _
theorem e_X12_init_1145 (a : Nat) (g : aH) : f_X12_init_1145 (z + a) (mvH z g) = mp z (f_X12_init_1145 a g) := by
  unfold f_X12_init_1145
  refine nm_cN ?_
  refine nm_cH ?_
  refine ka_c (fun _ => ?_)
  refine chk_c ?_
  refine chk_c ?_
  refine chk_c ?_
  refine ko_c ?_
  simp only [sI_sh, sR_sh, sRn_sh, sL_sh]
  exact e_X12_init_1167 _ _
theorem e_X12_init_1123 (a : Nat) (g : aH) : f_X12_init_1123 (z + a) (mvH z g) = mp z (f_X12_init_1123 a g) := by
  unfold f_X12_init_1123
  refine nm_cN ?_
  refine nm_cH ?_
  refine ka_c (fun _ => ?_)
  refine chk_c ?_
  refine chk_c ?_
  refine chk_c ?_
  refine ko_c ?_
  simp only [sI_sh, sR_sh, sRn_sh, sL_sh]
  exact e_X12_init_1145 _ _
theorem e_X12_init_1101 (a : Nat) (g : aH) : f_X12_init_1101 (z + a) (mvH z g) = mp z (f_X12_init_1101 a g) := by
  unfold f_X12_init_1101
  refine nm_cN ?_
  refine nm_cH ?_
  refine ka_c (fun _ => ?_)
  refine chk_c ?_
  refine chk_c ?_
  refine chk_c ?_
  refine ko_c ?_
  simp only [sI_sh, sR_sh, sRn_sh, sL_sh]
  exact e_X12_init_1123 _ _
theorem e_X12_init_1084 (a : Nat) (g : aH) : f_X12_init_1084 (z + a) (mvH z g) = mp z (f_X12_init_1084 a g) := by
  unfold f_X12_init_1084
  refine nm_cN ?_
  refine nm_cH ?_
  refine ka_c (fun _ => ?_)
  refine chk_c ?_
  refine chk_c ?_
  refine ko_c ?_
  simp only [sI_sh, sR_sh, sRn_sh, sL_sh]
  exact e_X12_init_1101 _ _
theorem e_X12_init_1062 (a : Nat) (g : aH) : f_X12_init_1062 (z + a) (mvH z g) = mp z (f_X12_init_1062 a g) := by
  unfold f_X12_init_1062
  refine nm_cN ?_
  refine nm_cH ?_
  refine ka_c (fun _ => ?_)
  refine chk_c ?_
  refine chk_c ?_
  refine chk_c ?_
  refine ko_c ?_
  simp only [sI_sh, sR_sh, sRn_sh, sL_sh]
  exact e_X12_init_1084 _ _
theorem e_X12_init_1040 (a : Nat) (g : aH) : f_X12_init_1040 (z + a) (mvH z g) = mp z (f_X12_init_1040 a g) := by
  unfold f_X12_init_1040
  refine nm_cN ?_
  refine nm_cH ?_
  refine ka_c (fun _ => ?_)
  refine chk_c ?_
  refine chk_c ?_
  refine chk_c ?_
  refine ko_c ?_
  simp only [sI_sh, sR_sh, sRn_sh, sL_sh]
  exact e_X12_init_1062 _ _
theorem e_X12_init_1008 (a : Nat) (g : aH) : f_X12_init_1008 (z + a) (mvH z g) = mp z (f_X12_init_1008 a g) := by
  unfold f_X12_init_1008
  refine nm_cN ?_
  refine nm_cH ?_
  refine ka_c (fun _ => ?_)
  refine chk_c ?_
  refine chk_c ?_
  refine chk_c ?_
  refine chk_c ?_
  refine chk_c ?_
  refine ko_c ?_
  simp only [sI_sh, sR_sh, sRn_sh, sL_sh]
  exact e_X12_init_1040 _ _
theorem e_X12_init_981 (a : Nat) (g : aH) : f_X12_init_981 (z + a) (mvH z g) = mp z (f_X12_init_981 a g) := by
  unfold f_X12_init_981
  refine nm_cN ?_
  refine nm_cH ?_
  refine ka_c (fun _ => ?_)
  refine chk_c ?_
  refine chk_c ?_
  refine chk_c ?_
  refine chk_c ?_
  refine ko_c ?_
  simp only [sI_sh, sR_sh, sRn_sh, sL_sh]
  exact e_X12_init_1008 _ _
theorem e_X12_init_949 (a : Nat) (g : aH) : f_X12_init_949 (z + a) (mvH z g) = mp z (f_X12_init_949 a g) := by
  unfold f_X12_init_949
  refine nm_cN ?_
  refine nm_cH ?_
  refine ka_c (fun _ => ?_)
  refine chk_c ?_
  refine chk_c ?_
  refine chk_c ?_
  refine chk_c ?_
  refine chk_c ?_
  refine ko_c ?_
  simp only [sI_sh, sR_sh, sRn_sh, sL_sh]
  exact e_X12_init_981 _ _
theorem e_X12_init_917 (a : Nat) (g : aH) : f_X12_init_917 (z + a) (mvH z g) = mp z (f_X12_init_917 a g) := by
  unfold f_X12_init_917
  refine nm_cN ?_
  refine nm_cH ?_
  refine ka_c (fun _ => ?_)
  refine chk_c ?_
  refine chk_c ?_
  refine chk_c ?_
  refine chk_c ?_
  refine chk_c ?_
  refine ko_c ?_
  simp only [sI_sh, sR_sh, sRn_sh, sL_sh]
  exact e_X12_init_949 _ _
theorem e_X12_init_890 (a : Nat) (g : aH) : f_X12_init_890 (z + a) (mvH z g) = mp z (f_X12_init_890 a g) := by
  unfold f_X12_init_890
  refine nm_cN ?_
  refine nm_cH ?_
  refine ka_c (fun _ => ?_)
  refine chk_c ?_
  refine chk_c ?_
  refine chk_c ?_
  refine chk_c ?_
  refine ko_c ?_
  simp only [sI_sh, sR_sh, sRn_sh, sL_sh]
  exact e_X12_init_917 _ _
theorem e_X12_init_858 (a : Nat) (g : aH) : f_X12_init_858 (z + a) (mvH z g) = mp z (f_X12_init_858 a g) := by
  unfold f_X12_init_858
  refine nm_cN ?_
  refine nm_cH ?_
  refine ka_c (fun _ => ?_)
  refine chk_c ?_
  refine chk_c ?_
  refine chk_c ?_
  refine chk_c ?_
  refine chk_c ?_
  refine ko_c ?_
  simp only [sI_sh, sR_sh, sRn_sh, sL_sh]
  exact e_X12_init_890 _ _
theorem e_X12_init_853 (a : Nat) (g : aH) : f_X12_init_853 (z + a) (mvH z g) = mp z (f_X12_init_853 a g) := by
  unfold f_X12_init_853
  refine ko_c ?_
  simp only [sI_sh, sR_sh, sRn_sh, sL_sh]
  exact e_X12_init_858 _ _
theorem e_X12_init_844 (a : Nat) (g : aH) : f_X12_init_844 (z + a) (mvH z g) = mp z (f_X12_init_844 a g) := by
  unfold f_X12_init_844
  refine nm_cN ?_
  refine nm_cH ?_
  refine ko_c ?_
  simp only [sI_sh, sR_sh, sRn_sh, sL_sh]
  exact e_X12_init_853 _ _
theorem e_X12_init_835 (a : Nat) (g : aH) : f_X12_init_835 (z + a) (mvH z g) = mp z (f_X12_init_835 a g) := by
  unfold f_X12_init_835
  refine nm_cN ?_
  refine nm_cH ?_
  refine ko_c ?_
  simp only [sI_sh, sR_sh, sRn_sh, sL_sh]
  exact e_X12_init_844 _ _
theorem e_X12_init_827 (a : Nat) (g : aH) : f_X12_init_827 (z + a) (mvH z g) = mp z (f_X12_init_827 a g) := by
  unfold f_X12_init_827
  refine nm_cN ?_
  refine nm_cH ?_
  refine ko_c ?_
  simp only [sI_sh, sR_sh, sRn_sh, sL_sh]
  exact e_X12_init_835 _ _
theorem e_X12_init_819 (a : Nat) (g : aH) : f_X12_init_819 (z + a) (mvH z g) = mp z (f_X12_init_819 a g) := by
  unfold f_X12_init_819
  refine nm_cN ?_
  refine nm_cH ?_
  refine ko_c ?_
  simp only [sI_sh, sR_sh, sRn_sh, sL_sh]
  exact e_X12_init_827 _ _
theorem e_X12_init_810 (a : Nat) (g : aH) : f_X12_init_810 (z + a) (mvH z g) = mp z (f_X12_init_810 a g) := by
  unfold f_X12_init_810
  refine nm_cN ?_
  refine nm_cH ?_
  refine ko_c ?_
  simp only [sI_sh, sR_sh, sRn_sh, sL_sh]
  exact e_X12_init_819 _ _
theorem e_X12_init_801 (a : Nat) (g : aH) : f_X12_init_801 (z + a) (mvH z g) = mp z (f_X12_init_801 a g) := by
  unfold f_X12_init_801
  refine nm_cN ?_
  refine nm_cH ?_
  refine ko_c ?_
  simp only [sI_sh, sR_sh, sRn_sh, sL_sh]
  exact e_X12_init_810 _ _
theorem e_X12_init_793 (a : Nat) (g : aH) : f_X12_init_793 (z + a) (mvH z g) = mp z (f_X12_init_793 a g) := by
  unfold f_X12_init_793
  refine nm_cN ?_
  refine nm_cH ?_
  refine ko_c ?_
  simp only [sI_sh, sR_sh, sRn_sh, sL_sh]
  exact e_X12_init_801 _ _
theorem e_X12_init_761 (a : Nat) (g : aH) : f_X12_init_761 (z + a) (mvH z g) = mp z (f_X12_init_761 a g) := by
  unfold f_X12_init_761
  refine nm_cN ?_
  refine nm_cH ?_
  refine ka_c (fun _ => ?_)
  refine chk_c ?_
  refine chk_c ?_
  refine chk_c ?_
  refine chk_c ?_
  refine chk_c ?_
  refine chk_c ?_
  refine ko_c ?_
  simp only [sI_sh, sR_sh, sRn_sh, sL_sh]
  exact e_X12_init_793 _ _
theorem e_X12_init_753 (a : Nat) (g : aH) : f_X12_init_753 (z + a) (mvH z g) = mp z (f_X12_init_753 a g) := by
  unfold f_X12_init_753
  refine nm_cN ?_
  refine nm_cH ?_
  refine ko_c ?_
  simp only [sI_sh, sR_sh, sRn_sh, sL_sh]
  exact e_X12_init_761 _ _
theorem e_X12_init_745 (a : Nat) (g : aH) : f_X12_init_745 (z + a) (mvH z g) = mp z (f_X12_init_745 a g) := by
  unfold f_X12_init_745
  refine nm_cN ?_
  refine nm_cH ?_
  refine ko_c ?_
  simp only [sI_sh, sR_sh, sRn_sh, sL_sh]
  exact e_X12_init_753 _ _
theorem e_X12_init_737 (a : Nat) (g : aH) : f_X12_init_737 (z + a) (mvH z g) = mp z (f_X12_init_737 a g) := by
  unfold f_X12_init_737
  refine nm_cN ?_
  refine nm_cH ?_
  refine ko_c ?_
  simp only [sI_sh, sR_sh, sRn_sh, sL_sh]
  exact e_X12_init_745 _ _
theorem e_X12_init_715 (a : Nat) (g : aH) : f_X12_init_715 (z + a) (mvH z g) = mp z (f_X12_init_715 a g) := by
  unfold f_X12_init_715
  refine nm_cN ?_
  refine nm_cH ?_
  refine ka_c (fun _ => ?_)
  refine chk_c ?_
  refine chk_c ?_
  refine chk_c ?_
  refine ko_c ?_
  simp only [sI_sh, sR_sh, sRn_sh, sL_sh]
  exact e_X12_init_737 _ _
theorem e_X12_init_693 (a : Nat) (g : aH) : f_X12_init_693 (z + a) (mvH z g) = mp z (f_X12_init_693 a g) := by
  unfold f_X12_init_693
  refine nm_cN ?_
  refine nm_cH ?_
  refine ka_c (fun _ => ?_)
  refine chk_c ?_
  refine chk_c ?_
  refine chk_c ?_
  refine ko_c ?_
  simp only [sI_sh, sR_sh, sRn_sh, sL_sh]
  exact e_X12_init_715 _ _
theorem e_X12_init_671 (a : Nat) (g : aH) : f_X12_init_671 (z + a) (mvH z g) = mp z (f_X12_init_671 a g) := by
  unfold f_X12_init_671
  refine nm_cN ?_
  refine nm_cH ?_
  refine ka_c (fun _ => ?_)
  refine chk_c ?_
  refine chk_c ?_
  refine chk_c ?_
  refine ko_c ?_
  simp only [sI_sh, sR_sh, sRn_sh, sL_sh]
  exact e_X12_init_693 _ _
theorem e_X12_init_649 (a : Nat) (g : aH) : f_X12_init_649 (z + a) (mvH z g) = mp z (f_X12_init_649 a g) := by
  unfold f_X12_init_649
  refine nm_cN ?_
  refine nm_cH ?_
  refine ka_c (fun _ => ?_)
  refine chk_c ?_
  refine chk_c ?_
  refine chk_c ?_
  refine ko_c ?_
  simp only [sI_sh, sR_sh, sRn_sh, sL_sh]
  exact e_X12_init_671 _ _
theorem e_X12_init_627 (a : Nat) (g : aH) : f_X12_init_627 (z + a) (mvH z g) = mp z (f_X12_init_627 a g) := by
  unfold f_X12_init_627
  refine nm_cN ?_
  refine nm_cH ?_
  refine ka_c (fun _ => ?_)
  refine chk_c ?_
  refine chk_c ?_
  refine chk_c ?_
  refine ko_c ?_
  simp only [sI_sh, sR_sh, sRn_sh, sL_sh]
  exact e_X12_init_649 _ _
theorem e_X12_init_610 (a : Nat) (g : aH) : f_X12_init_610 (z + a) (mvH z g) = mp z (f_X12_init_610 a g) := by
  unfold f_X12_init_610
  refine nm_cN ?_
  refine nm_cH ?_
  refine ka_c (fun _ => ?_)
  refine chk_c ?_
  refine chk_c ?_
  refine ko_c ?_
  simp only [sI_sh, sR_sh, sRn_sh, sL_sh]
  exact e_X12_init_627 _ _
theorem e_X12_init_583 (a : Nat) (g : aH) : f_X12_init_583 (z + a) (mvH z g) = mp z (f_X12_init_583 a g) := by
  unfold f_X12_init_583
  refine nm_cN ?_
  refine nm_cH ?_
  refine ka_c (fun _ => ?_)
  refine chk_c ?_
  refine chk_c ?_
  refine chk_c ?_
  refine chk_c ?_
  refine ko_c ?_
  simp only [sI_sh, sR_sh, sRn_sh, sL_sh]
  exact e_X12_init_610 _ _
theorem e_X12_init_556 (a : Nat) (g : aH) : f_X12_init_556 (z + a) (mvH z g) = mp z (f_X12_init_556 a g) := by
  unfold f_X12_init_556
  refine nm_cN ?_
  refine nm_cH ?_
  refine ka_c (fun _ => ?_)
  refine chk_c ?_
  refine chk_c ?_
  refine chk_c ?_
  refine chk_c ?_
  refine ko_c ?_
  simp only [sI_sh, sR_sh, sRn_sh, sL_sh]
  exact e_X12_init_583 _ _
theorem e_X12_init_524 (a : Nat) (g : aH) : f_X12_init_524 (z + a) (mvH z g) = mp z (f_X12_init_524 a g) := by
  unfold f_X12_init_524
  refine nm_cN ?_
  refine nm_cH ?_
  refine ka_c (fun _ => ?_)
  refine chk_c ?_
  refine chk_c ?_
  refine chk_c ?_
  refine chk_c ?_
  refine chk_c ?_
  refine ko_c ?_
  simp only [sI_sh, sR_sh, sRn_sh, sL_sh]
  exact e_X12_init_556 _ _
theorem e_X12_init_502 (a : Nat) (g : aH) : f_X12_init_502 (z + a) (mvH z g) = mp z (f_X12_init_502 a g) := by
  unfold f_X12_init_502
  refine nm_cN ?_
  refine nm_cH ?_
  refine ka_c (fun _ => ?_)
  refine chk_c ?_
  refine chk_c ?_
  refine chk_c ?_
  refine ko_c ?_
  simp only [sI_sh, sR_sh, sRn_sh, sL_sh]
  exact e_X12_init_524 _ _
theorem e_X12_init_464 (a : Nat) (g : aH) : f_X12_init_464 (z + a) (mvH z g) = mp z (f_X12_init_464 a g) := by
  unfold f_X12_init_464
  refine nm_cN ?_
  refine nm_cH ?_
  refine ka_c (fun _ => ?_)
  refine chk_c ?_
  refine chk_c ?_
  refine chk_c ?_
  refine chk_c ?_
  refine chk_c ?_
  refine chk_c ?_
  refine ko_c ?_
  simp only [sI_sh, sR_sh, sRn_sh, sL_sh]
  exact e_X12_init_502 _ _
theorem e_X12_init_432 (a : Nat) (g : aH) : f_X12_init_432 (z + a) (mvH z g) = mp z (f_X12_init_432 a g) := by
  unfold f_X12_init_432
  refine nm_cN ?_
  refine nm_cH ?_
  refine ka_c (fun _ => ?_)
  refine chk_c ?_
  refine chk_c ?_
  refine chk_c ?_
  refine chk_c ?_
  refine chk_c ?_
  refine ko_c ?_
  simp only [sI_sh, sR_sh, sRn_sh, sL_sh]
  exact e_X12_init_464 _ _
theorem e_X12_init_394 (a : Nat) (g : aH) : f_X12_init_394 (z + a) (mvH z g) = mp z (f_X12_init_394 a g) := by
  unfold f_X12_init_394
  refine nm_cN ?_
  refine nm_cH ?_
  refine ka_c (fun _ => ?_)
  refine chk_c ?_
  refine chk_c ?_
  refine chk_c ?_
  refine chk_c ?_
  refine chk_c ?_
  refine chk_c ?_
  refine ko_c ?_
  simp only [sI_sh, sR_sh, sRn_sh, sL_sh]
  exact e_X12_init_432 _ _
theorem e_X12_init_367 (a : Nat) (g : aH) : f_X12_init_367 (z + a) (mvH z g) = mp z (f_X12_init_367 a g) := by
  unfold f_X12_init_367
  refine nm_cN ?_
  refine nm_cH ?_
  refine ka_c (fun _ => ?_)
  refine chk_c ?_
  refine chk_c ?_
  refine chk_c ?_
  refine chk_c ?_
  refine ko_c ?_
  simp only [sI_sh, sR_sh, sRn_sh, sL_sh]
  exact e_X12_init_394 _ _
theorem e_X12_init_350 (a : Nat) (g : aH) : f_X12_init_350 (z + a) (mvH z g) = mp z (f_X12_init_350 a g) := by
  unfold f_X12_init_350
  refine nm_cN ?_
  refine nm_cH ?_
  refine ka_c (fun _ => ?_)
  refine chk_c ?_
  refine chk_c ?_
  refine ko_c ?_
  simp only [sI_sh, sR_sh, sRn_sh, sL_sh]
  exact e_X12_init_367 _ _
theorem e_X12_init_323 (a : Nat) (g : aH) : f_X12_init_323 (z + a) (mvH z g) = mp z (f_X12_init_323 a g) := by
  unfold f_X12_init_323
  refine nm_cN ?_
  refine nm_cH ?_
  refine ka_c (fun _ => ?_)
  refine chk_c ?_
  refine chk_c ?_
  refine chk_c ?_
  refine chk_c ?_
  refine ko_c ?_
  simp only [sI_sh, sR_sh, sRn_sh, sL_sh]
  exact e_X12_init_350 _ _
theorem e_X12_init_291 (a : Nat) (g : aH) : f_X12_init_291 (z + a) (mvH z g) = mp z (f_X12_init_291 a g) := by
  unfold f_X12_init_291
  refine nm_cN ?_
  refine nm_cH ?_
  refine ka_c (fun _ => ?_)
  refine chk_c ?_
  refine chk_c ?_
  refine chk_c ?_
  refine chk_c ?_
  refine chk_c ?_
  refine ko_c ?_
  simp only [sI_sh, sR_sh, sRn_sh, sL_sh]
  exact e_X12_init_323 _ _
theorem e_X12_init_264 (a : Nat) (g : aH) : f_X12_init_264 (z + a) (mvH z g) = mp z (f_X12_init_264 a g) := by
  unfold f_X12_init_264
  refine nm_cN ?_
  refine nm_cH ?_
  refine ka_c (fun _ => ?_)
  refine chk_c ?_
  refine chk_c ?_
  refine chk_c ?_
  refine chk_c ?_
  refine ko_c ?_
  simp only [sI_sh, sR_sh, sRn_sh, sL_sh]
  exact e_X12_init_291 _ _
theorem e_X12_init_232 (a : Nat) (g : aH) : f_X12_init_232 (z + a) (mvH z g) = mp z (f_X12_init_232 a g) := by
  unfold f_X12_init_232
  refine nm_cN ?_
  refine nm_cH ?_
  refine ka_c (fun _ => ?_)
  refine chk_c ?_
  refine chk_c ?_
  refine chk_c ?_
  refine chk_c ?_
  refine chk_c ?_
  refine ko_c ?_
  simp only [sI_sh, sR_sh, sRn_sh, sL_sh]
  exact e_X12_init_264 _ _
theorem e_X12_init_205 (a : Nat) (g : aH) : f_X12_init_205 (z + a) (mvH z g) = mp z (f_X12_init_205 a g) := by
  unfold f_X12_init_205
  refine nm_cN ?_
  refine nm_cH ?_
  refine ka_c (fun _ => ?_)
  refine chk_c ?_
  refine chk_c ?_
  refine chk_c ?_
  refine chk_c ?_
  refine ko_c ?_
  simp only [sI_sh, sR_sh, sRn_sh, sL_sh]
  exact e_X12_init_232 _ _
theorem e_X12_init_173 (a : Nat) (g : aH) : f_X12_init_173 (z + a) (mvH z g) = mp z (f_X12_init_173 a g) := by
  unfold f_X12_init_173
  refine nm_cN ?_
  refine nm_cH ?_
  refine ka_c (fun _ => ?_)
  refine chk_c ?_
  refine chk_c ?_
  refine chk_c ?_
  refine chk_c ?_
  refine chk_c ?_
  refine ko_c ?_
  simp only [sI_sh, sR_sh, sRn_sh, sL_sh]
  exact e_X12_init_205 _ _
theorem e_X12_init_146 (a : Nat) (g : aH) : f_X12_init_146 (z + a) (mvH z g) = mp z (f_X12_init_146 a g) := by
  unfold f_X12_init_146
  refine nm_cN ?_
  refine nm_cH ?_
  refine ka_c (fun _ => ?_)
  refine chk_c ?_
  refine chk_c ?_
  refine chk_c ?_
  refine chk_c ?_
  refine ko_c ?_
  simp only [sI_sh, sR_sh, sRn_sh, sL_sh]
  exact e_X12_init_173 _ _
theorem e_X12_init_114 (a : Nat) (g : aH) : f_X12_init_114 (z + a) (mvH z g) = mp z (f_X12_init_114 a g) := by
  unfold f_X12_init_114
  refine nm_cN ?_
  refine nm_cH ?_
  refine ka_c (fun _ => ?_)
  refine chk_c ?_
  refine chk_c ?_
  refine chk_c ?_
  refine chk_c ?_
  refine chk_c ?_
  refine ko_c ?_
  simp only [sI_sh, sR_sh, sRn_sh, sL_sh]
  exact e_X12_init_146 _ _
theorem e_X12_init_64 (a : Nat) (g : aH) : f_X12_init_64 (z + a) (mvH z g) = mp z (f_X12_init_64 a g) := by
  unfold f_X12_init_64
  refine nm_cN ?_
  refine nm_cH ?_
  refine ka_c (fun _ => ?_)
  refine chk_c ?_
  refine chk_c ?_
  refine chk_c ?_
  refine chk_c ?_
  refine chk_c ?_
  refine chk_c ?_
  refine chk_c ?_
  refine chk_c ?_
  refine ko_c ?_
  simp only [sI_sh, sR_sh, sRn_sh, sL_sh]
  exact e_X12_init_114 _ _
theorem e_X12_init_26 (a : Nat) (g : aH) : f_X12_init_26 (z + a) (mvH z g) = mp z (f_X12_init_26 a g) := by
  unfold f_X12_init_26
  refine nm_cN ?_
  refine nm_cH ?_
  refine ka_c (fun _ => ?_)
  refine chk_c ?_
  refine chk_c ?_
  refine chk_c ?_
  refine chk_c ?_
  refine chk_c ?_
  refine chk_c ?_
  refine ko_c ?_
  simp only [sI_sh, sR_sh, sRn_sh, sL_sh]
  exact e_X12_init_64 _ _
theorem e_X12_init_18 (a : Nat) (g : aH) : f_X12_init_18 (z + a) (mvH z g) = mp z (f_X12_init_18 a g) := by
  unfold f_X12_init_18
  refine nm_cN ?_
  refine nm_cH ?_
  refine ko_c ?_
  simp only [sI_sh, sR_sh, sRn_sh, sL_sh]
  exact e_X12_init_26 _ _
theorem e_X12_init_13 (a : Nat) (g : aH) : f_X12_init_13 (z + a) (mvH z g) = mp z (f_X12_init_13 a g) := by
  unfold f_X12_init_13
  refine ko_c ?_
  simp only [sI_sh, sR_sh, sRn_sh, sL_sh]
  exact e_X12_init_18 _ _
theorem e_X12_init (a : Nat) (g : aH) : f_X12_init (z + a) (mvH z g) = mp z (f_X12_init a g) := by
  unfold f_X12_init
  refine nm_cN ?_
  refine nm_cH ?_
  refine ko_c ?_
  simp only [sI_sh, sR_sh, sRn_sh, sL_sh]
  exact e_X12_init_13 _ _
end Ph
