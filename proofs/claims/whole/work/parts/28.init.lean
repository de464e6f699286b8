def f_X12_init_1576 (h : aH) : Option (Unit × aH) :=
  some ((), h)
set_option maxRecDepth 100000 in
set_option maxHeartbeats 4000000 in
theorem t_X12_init_1576 {Γ : gS} {d : Nat} (hd : 1 ≤ d) {h : aH} {r : Unit} {h' : aH} (H : f_X12_init_1576 h = some (r, h')) : Ex Γ gX12_init d 1576 [] [] h none h' := by
  unfold f_X12_init_1576 at H
  obtain ⟨d, rfl⟩ : ∃ e, d = e + 1 := ⟨d - 1, by omega⟩
  obtain ⟨-, rfl⟩ := so_1 H
  exact x_vret dX12_init_1576 rfl
def f_X12_init_1567 (x0 : Nat) (h : aH) : Option (Unit × aH) :=
  nm (hN h) fun (a2 : Nat) =>
  nm (nw h (.inr (.int, 450)) 450) fun (h1 : aH) =>
  ko h1 x0 11 <|
  f_X12_init_1576 (sR h1 x0 101 (some a2))
set_option maxRecDepth 100000 in
set_option maxHeartbeats 4000000 in
theorem t_X12_init_1567 {Γ : gS} {d : Nat} (hd : 1 ≤ d) {x0 : Nat} {h : aH} {r : Unit} {h' : aH} (H : f_X12_init_1567 x0 h = some (r, h')) : Ex Γ gX12_init d 1567 [(0, .ref x0)] [] h none h' := by
  unfold f_X12_init_1567 at H
  obtain ⟨d, rfl⟩ : ∃ e, d = e + 1 := ⟨d - 1, by omega⟩
  refine x_aload_n dX12_init_1567 rfl 0 rfl ?_
  refine x_sipush (v := 450) dX12_init_1568 (by decide) ?_
  obtain ⟨a2, ea2, H⟩ := nm_o H
  obtain ⟨h1, eh1, H⟩ := nm_o H
  refine x_newa (t := .int) (N := 450) dX12_init_1571 rfl (by decide) rfl ac_int (by decide) (by decide) (by decide) ?_
  rw [ea2]
  refine Ex.ren eh1 ?_
  obtain ⟨c3, H⟩ := ko_o H
  refine x_putR fl_X12_219 dX12_init_1573 c3 (fun _ => rfl) rfl ?_
  refine Ex.sub [] rfl ?_
  exact t_X12_init_1576 hd H
def f_X12_init_1558 (x0 : Nat) (h : aH) : Option (Unit × aH) :=
  nm (hN h) fun (a5 : Nat) =>
  nm (nw h (.inr (.long, 1700)) 1700) fun (h4 : aH) =>
  ko h4 x0 11 <|
  f_X12_init_1567 x0 (sR h4 x0 97 (some a5))
set_option maxRecDepth 100000 in
set_option maxHeartbeats 4000000 in
theorem t_X12_init_1558 {Γ : gS} {d : Nat} (hd : 1 ≤ d) {x0 : Nat} {h : aH} {r : Unit} {h' : aH} (H : f_X12_init_1558 x0 h = some (r, h')) : Ex Γ gX12_init d 1558 [(0, .ref x0)] [] h none h' := by
  unfold f_X12_init_1558 at H
  obtain ⟨d, rfl⟩ : ∃ e, d = e + 1 := ⟨d - 1, by omega⟩
  refine x_aload_n dX12_init_1558 rfl 0 rfl ?_
  refine x_sipush (v := 1700) dX12_init_1559 (by decide) ?_
  obtain ⟨a5, ea5, H⟩ := nm_o H
  obtain ⟨h4, eh4, H⟩ := nm_o H
  refine x_newa (t := .long) (N := 1700) dX12_init_1562 rfl (by decide) rfl ac_long (by decide) (by decide) (by decide) ?_
  rw [ea5]
  refine Ex.ren eh4 ?_
  obtain ⟨c6, H⟩ := ko_o H
  refine x_putR fl_X12_216 dX12_init_1564 c6 (fun _ => rfl) rfl ?_
  exact t_X12_init_1567 hd H
def f_X12_init_1549 (x0 : Nat) (h : aH) : Option (Unit × aH) :=
  nm (hN h) fun (a8 : Nat) =>
  nm (nw h (.inr (.int, 1700)) 1700) fun (h7 : aH) =>
  ko h7 x0 11 <|
  f_X12_init_1558 x0 (sR h7 x0 93 (some a8))
set_option maxRecDepth 100000 in
set_option maxHeartbeats 4000000 in
theorem t_X12_init_1549 {Γ : gS} {d : Nat} (hd : 1 ≤ d) {x0 : Nat} {h : aH} {r : Unit} {h' : aH} (H : f_X12_init_1549 x0 h = some (r, h')) : Ex Γ gX12_init d 1549 [(0, .ref x0)] [] h none h' := by
  unfold f_X12_init_1549 at H
  obtain ⟨d, rfl⟩ : ∃ e, d = e + 1 := ⟨d - 1, by omega⟩
  refine x_aload_n dX12_init_1549 rfl 0 rfl ?_
  refine x_sipush (v := 1700) dX12_init_1550 (by decide) ?_
  obtain ⟨a8, ea8, H⟩ := nm_o H
  obtain ⟨h7, eh7, H⟩ := nm_o H
  refine x_newa (t := .int) (N := 1700) dX12_init_1553 rfl (by decide) rfl ac_int (by decide) (by decide) (by decide) ?_
  rw [ea8]
  refine Ex.ren eh7 ?_
  obtain ⟨c9, H⟩ := ko_o H
  refine x_putR fl_X12_213 dX12_init_1555 c9 (fun _ => rfl) rfl ?_
  exact t_X12_init_1558 hd H
def f_X12_init_1540 (x0 : Nat) (h : aH) : Option (Unit × aH) :=
  nm (hN h) fun (a11 : Nat) =>
  nm (nw h (.inr (.int, 1700)) 1700) fun (h10 : aH) =>
  ko h10 x0 11 <|
  f_X12_init_1549 x0 (sR h10 x0 91 (some a11))
set_option maxRecDepth 100000 in
set_option maxHeartbeats 4000000 in
theorem t_X12_init_1540 {Γ : gS} {d : Nat} (hd : 1 ≤ d) {x0 : Nat} {h : aH} {r : Unit} {h' : aH} (H : f_X12_init_1540 x0 h = some (r, h')) : Ex Γ gX12_init d 1540 [(0, .ref x0)] [] h none h' := by
  unfold f_X12_init_1540 at H
  obtain ⟨d, rfl⟩ : ∃ e, d = e + 1 := ⟨d - 1, by omega⟩
  refine x_aload_n dX12_init_1540 rfl 0 rfl ?_
  refine x_sipush (v := 1700) dX12_init_1541 (by decide) ?_
  obtain ⟨a11, ea11, H⟩ := nm_o H
  obtain ⟨h10, eh10, H⟩ := nm_o H
  refine x_newa (t := .int) (N := 1700) dX12_init_1544 rfl (by decide) rfl ac_int (by decide) (by decide) (by decide) ?_
  rw [ea11]
  refine Ex.ren eh10 ?_
  obtain ⟨c12, H⟩ := ko_o H
  refine x_putR fl_X12_210 dX12_init_1546 c12 (fun _ => rfl) rfl ?_
  exact t_X12_init_1549 hd H
def f_X12_init_1513 (x0 : Nat) (h : aH) : Option (Unit × aH) :=
  nm (hN h) fun (a14 : Nat) =>
  nm (nw h (.inr (.char, 4)) 4) fun (h13 : aH) =>
  ka h13 a14 .char fun n16 =>
  chk (inb 0 n16 = true) <|
  chk (inb 1 n16 = true) <|
  chk (inb 2 n16 = true) <|
  chk (inb 3 n16 = true) <|
  ko h13 x0 11 <|
  f_X12_init_1540 x0 (sR (sI (sI (sI (sI h13 a14 (0 : Int32).toNatClampNeg ((102 : Int32).toUInt32.toUInt16.toUInt32.toInt32)) a14 (1 : Int32).toNatClampNeg ((105 : Int32).toUInt32.toUInt16.toUInt32.toInt32)) a14 (2 : Int32).toNatClampNeg ((116 : Int32).toUInt32.toUInt16.toUInt32.toInt32)) a14 (3 : Int32).toNatClampNeg ((115 : Int32).toUInt32.toUInt16.toUInt32.toInt32)) x0 90 (some a14))
set_option maxRecDepth 100000 in
set_option maxHeartbeats 4000000 in
theorem t_X12_init_1513 {Γ : gS} {d : Nat} (hd : 1 ≤ d) {x0 : Nat} {h : aH} {r : Unit} {h' : aH} (H : f_X12_init_1513 x0 h = some (r, h')) : Ex Γ gX12_init d 1513 [(0, .ref x0)] [] h none h' := by
  unfold f_X12_init_1513 at H
  obtain ⟨d, rfl⟩ : ∃ e, d = e + 1 := ⟨d - 1, by omega⟩
  refine x_aload_n dX12_init_1513 rfl 0 rfl ?_
  refine x_iconst (v := 4) dX12_init_1514 (by decide) ?_
  obtain ⟨a14, ea14, H⟩ := nm_o H
  obtain ⟨h13, eh13, H⟩ := nm_o H
  refine x_newa (t := .char) (N := 4) dX12_init_1515 rfl (by decide) rfl ac_char (by decide) (by decide) (by decide) ?_
  rw [ea14]
  refine Ex.ren eh13 ?_
  refine x_dup dX12_init_1517 rfl ?_
  refine x_iconst (v := 0) dX12_init_1518 (by decide) ?_
  refine x_bipush (v := 102) dX12_init_1519 (by decide) ?_
  obtain ⟨n16, c15, H⟩ := ka_o H
  obtain ⟨c17, H⟩ := chk_o H
  refine x_cast dX12_init_1521 c15 (inb_in.mp c17) ?_
  refine x_dup dX12_init_1522 rfl ?_
  refine x_iconst (v := 1) dX12_init_1523 (by decide) ?_
  refine x_bipush (v := 105) dX12_init_1524 (by decide) ?_
  obtain ⟨c18, H⟩ := chk_o H
  refine x_cast dX12_init_1526 c15 (inb_in.mp c18) ?_
  refine x_dup dX12_init_1527 rfl ?_
  refine x_iconst (v := 2) dX12_init_1528 (by decide) ?_
  refine x_bipush (v := 116) dX12_init_1529 (by decide) ?_
  obtain ⟨c19, H⟩ := chk_o H
  refine x_cast dX12_init_1531 c15 (inb_in.mp c19) ?_
  refine x_dup dX12_init_1532 rfl ?_
  refine x_iconst (v := 3) dX12_init_1533 (by decide) ?_
  refine x_bipush (v := 115) dX12_init_1534 (by decide) ?_
  obtain ⟨c20, H⟩ := chk_o H
  refine x_cast dX12_init_1536 c15 (inb_in.mp c20) ?_
  obtain ⟨c21, H⟩ := ko_o H
  refine x_putR fl_X12_207 dX12_init_1537 c21 (fun _ => rfl) rfl ?_
  exact t_X12_init_1540 hd H
def f_X12_init_1486 (x0 : Nat) (h : aH) : Option (Unit × aH) :=
  nm (hN h) fun (a23 : Nat) =>
  nm (nw h (.inr (.char, 4)) 4) fun (h22 : aH) =>
  ka h22 a23 .char fun n25 =>
  chk (inb 0 n25 = true) <|
  chk (inb 1 n25 = true) <|
  chk (inb 2 n25 = true) <|
  chk (inb 3 n25 = true) <|
  ko h22 x0 11 <|
  f_X12_init_1513 x0 (sR (sI (sI (sI (sI h22 a23 (0 : Int32).toNatClampNeg ((102 : Int32).toUInt32.toUInt16.toUInt32.toInt32)) a23 (1 : Int32).toNatClampNeg ((114 : Int32).toUInt32.toUInt16.toUInt32.toInt32)) a23 (2 : Int32).toNatClampNeg ((111 : Int32).toUInt32.toUInt16.toUInt32.toInt32)) a23 (3 : Int32).toNatClampNeg ((109 : Int32).toUInt32.toUInt16.toUInt32.toInt32)) x0 89 (some a23))
set_option maxRecDepth 100000 in
set_option maxHeartbeats 4000000 in
theorem t_X12_init_1486 {Γ : gS} {d : Nat} (hd : 1 ≤ d) {x0 : Nat} {h : aH} {r : Unit} {h' : aH} (H : f_X12_init_1486 x0 h = some (r, h')) : Ex Γ gX12_init d 1486 [(0, .ref x0)] [] h none h' := by
  unfold f_X12_init_1486 at H
  obtain ⟨d, rfl⟩ : ∃ e, d = e + 1 := ⟨d - 1, by omega⟩
  refine x_aload_n dX12_init_1486 rfl 0 rfl ?_
  refine x_iconst (v := 4) dX12_init_1487 (by decide) ?_
  obtain ⟨a23, ea23, H⟩ := nm_o H
  obtain ⟨h22, eh22, H⟩ := nm_o H
  refine x_newa (t := .char) (N := 4) dX12_init_1488 rfl (by decide) rfl ac_char (by decide) (by decide) (by decide) ?_
  rw [ea23]
  refine Ex.ren eh22 ?_
  refine x_dup dX12_init_1490 rfl ?_
  refine x_iconst (v := 0) dX12_init_1491 (by decide) ?_
  refine x_bipush (v := 102) dX12_init_1492 (by decide) ?_
  obtain ⟨n25, c24, H⟩ := ka_o H
  obtain ⟨c26, H⟩ := chk_o H
  refine x_cast dX12_init_1494 c24 (inb_in.mp c26) ?_
  refine x_dup dX12_init_1495 rfl ?_
  refine x_iconst (v := 1) dX12_init_1496 (by decide) ?_
  refine x_bipush (v := 114) dX12_init_1497 (by decide) ?_
  obtain ⟨c27, H⟩ := chk_o H
  refine x_cast dX12_init_1499 c24 (inb_in.mp c27) ?_
  refine x_dup dX12_init_1500 rfl ?_
  refine x_iconst (v := 2) dX12_init_1501 (by decide) ?_
  refine x_bipush (v := 111) dX12_init_1502 (by decide) ?_
  obtain ⟨c28, H⟩ := chk_o H
  refine x_cast dX12_init_1504 c24 (inb_in.mp c28) ?_
  refine x_dup dX12_init_1505 rfl ?_
  refine x_iconst (v := 3) dX12_init_1506 (by decide) ?_
  refine x_bipush (v := 109) dX12_init_1507 (by decide) ?_
  obtain ⟨c29, H⟩ := chk_o H
  refine x_cast dX12_init_1509 c24 (inb_in.mp c29) ?_
  obtain ⟨c30, H⟩ := ko_o H
  refine x_putR fl_X12_204 dX12_init_1510 c30 (fun _ => rfl) rfl ?_
  exact t_X12_init_1513 hd H
def f_X12_init_1454 (x0 : Nat) (h : aH) : Option (Unit × aH) :=
  nm (hN h) fun (a32 : Nat) =>
  nm (nw h (.inr (.char, 5)) 5) fun (h31 : aH) =>
  ka h31 a32 .char fun n34 =>
  chk (inb 0 n34 = true) <|
  chk (inb 1 n34 = true) <|
  chk (inb 2 n34 = true) <|
  chk (inb 3 n34 = true) <|
  chk (inb 4 n34 = true) <|
  ko h31 x0 11 <|
  f_X12_init_1486 x0 (sR (sI (sI (sI (sI (sI h31 a32 (0 : Int32).toNatClampNeg ((118 : Int32).toUInt32.toUInt16.toUInt32.toInt32)) a32 (1 : Int32).toNatClampNeg ((97 : Int32).toUInt32.toUInt16.toUInt32.toInt32)) a32 (2 : Int32).toNatClampNeg ((108 : Int32).toUInt32.toUInt16.toUInt32.toInt32)) a32 (3 : Int32).toNatClampNeg ((105 : Int32).toUInt32.toUInt16.toUInt32.toInt32)) a32 (4 : Int32).toNatClampNeg ((100 : Int32).toUInt32.toUInt16.toUInt32.toInt32)) x0 88 (some a32))
set_option maxRecDepth 100000 in
set_option maxHeartbeats 4000000 in
theorem t_X12_init_1454 {Γ : gS} {d : Nat} (hd : 1 ≤ d) {x0 : Nat} {h : aH} {r : Unit} {h' : aH} (H : f_X12_init_1454 x0 h = some (r, h')) : Ex Γ gX12_init d 1454 [(0, .ref x0)] [] h none h' := by
  unfold f_X12_init_1454 at H
  obtain ⟨d, rfl⟩ : ∃ e, d = e + 1 := ⟨d - 1, by omega⟩
  refine x_aload_n dX12_init_1454 rfl 0 rfl ?_
  refine x_iconst (v := 5) dX12_init_1455 (by decide) ?_
  obtain ⟨a32, ea32, H⟩ := nm_o H
  obtain ⟨h31, eh31, H⟩ := nm_o H
  refine x_newa (t := .char) (N := 5) dX12_init_1456 rfl (by decide) rfl ac_char (by decide) (by decide) (by decide) ?_
  rw [ea32]
  refine Ex.ren eh31 ?_
  refine x_dup dX12_init_1458 rfl ?_
  refine x_iconst (v := 0) dX12_init_1459 (by decide) ?_
  refine x_bipush (v := 118) dX12_init_1460 (by decide) ?_
  obtain ⟨n34, c33, H⟩ := ka_o H
  obtain ⟨c35, H⟩ := chk_o H
  refine x_cast dX12_init_1462 c33 (inb_in.mp c35) ?_
  refine x_dup dX12_init_1463 rfl ?_
  refine x_iconst (v := 1) dX12_init_1464 (by decide) ?_
  refine x_bipush (v := 97) dX12_init_1465 (by decide) ?_
  obtain ⟨c36, H⟩ := chk_o H
  refine x_cast dX12_init_1467 c33 (inb_in.mp c36) ?_
  refine x_dup dX12_init_1468 rfl ?_
  refine x_iconst (v := 2) dX12_init_1469 (by decide) ?_
  refine x_bipush (v := 108) dX12_init_1470 (by decide) ?_
  obtain ⟨c37, H⟩ := chk_o H
  refine x_cast dX12_init_1472 c33 (inb_in.mp c37) ?_
  refine x_dup dX12_init_1473 rfl ?_
  refine x_iconst (v := 3) dX12_init_1474 (by decide) ?_
  refine x_bipush (v := 105) dX12_init_1475 (by decide) ?_
  obtain ⟨c38, H⟩ := chk_o H
  refine x_cast dX12_init_1477 c33 (inb_in.mp c38) ?_
  refine x_dup dX12_init_1478 rfl ?_
  refine x_iconst (v := 4) dX12_init_1479 (by decide) ?_
  refine x_bipush (v := 100) dX12_init_1480 (by decide) ?_
  obtain ⟨c39, H⟩ := chk_o H
  refine x_cast dX12_init_1482 c33 (inb_in.mp c39) ?_
  obtain ⟨c40, H⟩ := ko_o H
  refine x_putR fl_X12_201 dX12_init_1483 c40 (fun _ => rfl) rfl ?_
  exact t_X12_init_1486 hd H
def f_X12_init_1427 (x0 : Nat) (h : aH) : Option (Unit × aH) :=
  nm (hN h) fun (a42 : Nat) =>
  nm (nw h (.inr (.char, 4)) 4) fun (h41 : aH) =>
  ka h41 a42 .char fun n44 =>
  chk (inb 0 n44 = true) <|
  chk (inb 1 n44 = true) <|
  chk (inb 2 n44 = true) <|
  chk (inb 3 n44 = true) <|
  ko h41 x0 11 <|
  f_X12_init_1454 x0 (sR (sI (sI (sI (sI h41 a42 (0 : Int32).toNatClampNeg ((107 : Int32).toUInt32.toUInt16.toUInt32.toInt32)) a42 (1 : Int32).toNatClampNeg ((105 : Int32).toUInt32.toUInt16.toUInt32.toInt32)) a42 (2 : Int32).toNatClampNeg ((110 : Int32).toUInt32.toUInt16.toUInt32.toInt32)) a42 (3 : Int32).toNatClampNeg ((100 : Int32).toUInt32.toUInt16.toUInt32.toInt32)) x0 87 (some a42))
set_option maxRecDepth 100000 in
set_option maxHeartbeats 4000000 in
theorem t_X12_init_1427 {Γ : gS} {d : Nat} (hd : 1 ≤ d) {x0 : Nat} {h : aH} {r : Unit} {h' : aH} (H : f_X12_init_1427 x0 h = some (r, h')) : Ex Γ gX12_init d 1427 [(0, .ref x0)] [] h none h' := by
  unfold f_X12_init_1427 at H
  obtain ⟨d, rfl⟩ : ∃ e, d = e + 1 := ⟨d - 1, by omega⟩
  refine x_aload_n dX12_init_1427 rfl 0 rfl ?_
  refine x_iconst (v := 4) dX12_init_1428 (by decide) ?_
  obtain ⟨a42, ea42, H⟩ := nm_o H
  obtain ⟨h41, eh41, H⟩ := nm_o H
  refine x_newa (t := .char) (N := 4) dX12_init_1429 rfl (by decide) rfl ac_char (by decide) (by decide) (by decide) ?_
  rw [ea42]
  refine Ex.ren eh41 ?_
  refine x_dup dX12_init_1431 rfl ?_
  refine x_iconst (v := 0) dX12_init_1432 (by decide) ?_
  refine x_bipush (v := 107) dX12_init_1433 (by decide) ?_
  obtain ⟨n44, c43, H⟩ := ka_o H
  obtain ⟨c45, H⟩ := chk_o H
  refine x_cast dX12_init_1435 c43 (inb_in.mp c45) ?_
  refine x_dup dX12_init_1436 rfl ?_
  refine x_iconst (v := 1) dX12_init_1437 (by decide) ?_
  refine x_bipush (v := 105) dX12_init_1438 (by decide) ?_
  obtain ⟨c46, H⟩ := chk_o H
  refine x_cast dX12_init_1440 c43 (inb_in.mp c46) ?_
  refine x_dup dX12_init_1441 rfl ?_
  refine x_iconst (v := 2) dX12_init_1442 (by decide) ?_
  refine x_bipush (v := 110) dX12_init_1443 (by decide) ?_
  obtain ⟨c47, H⟩ := chk_o H
  refine x_cast dX12_init_1445 c43 (inb_in.mp c47) ?_
  refine x_dup dX12_init_1446 rfl ?_
  refine x_iconst (v := 3) dX12_init_1447 (by decide) ?_
  refine x_bipush (v := 100) dX12_init_1448 (by decide) ?_
  obtain ⟨c48, H⟩ := chk_o H
  refine x_cast dX12_init_1450 c43 (inb_in.mp c48) ?_
  obtain ⟨c49, H⟩ := ko_o H
  refine x_putR fl_X12_198 dX12_init_1451 c49 (fun _ => rfl) rfl ?_
  exact t_X12_init_1454 hd H
def f_X12_init_1405 (x0 : Nat) (h : aH) : Option (Unit × aH) :=
  nm (hN h) fun (a51 : Nat) =>
  nm (nw h (.inr (.char, 3)) 3) fun (h50 : aH) =>
  ka h50 a51 .char fun n53 =>
  chk (inb 0 n53 = true) <|
  chk (inb 1 n53 = true) <|
  chk (inb 2 n53 = true) <|
  ko h50 x0 11 <|
  f_X12_init_1427 x0 (sR (sI (sI (sI h50 a51 (0 : Int32).toNatClampNeg ((101 : Int32).toUInt32.toUInt16.toUInt32.toInt32)) a51 (1 : Int32).toNatClampNeg ((120 : Int32).toUInt32.toUInt16.toUInt32.toInt32)) a51 (2 : Int32).toNatClampNeg ((112 : Int32).toUInt32.toUInt16.toUInt32.toInt32)) x0 86 (some a51))
set_option maxRecDepth 100000 in
set_option maxHeartbeats 4000000 in
theorem t_X12_init_1405 {Γ : gS} {d : Nat} (hd : 1 ≤ d) {x0 : Nat} {h : aH} {r : Unit} {h' : aH} (H : f_X12_init_1405 x0 h = some (r, h')) : Ex Γ gX12_init d 1405 [(0, .ref x0)] [] h none h' := by
  unfold f_X12_init_1405 at H
  obtain ⟨d, rfl⟩ : ∃ e, d = e + 1 := ⟨d - 1, by omega⟩
  refine x_aload_n dX12_init_1405 rfl 0 rfl ?_
  refine x_iconst (v := 3) dX12_init_1406 (by decide) ?_
  obtain ⟨a51, ea51, H⟩ := nm_o H
  obtain ⟨h50, eh50, H⟩ := nm_o H
  refine x_newa (t := .char) (N := 3) dX12_init_1407 rfl (by decide) rfl ac_char (by decide) (by decide) (by decide) ?_
  rw [ea51]
  refine Ex.ren eh50 ?_
  refine x_dup dX12_init_1409 rfl ?_
  refine x_iconst (v := 0) dX12_init_1410 (by decide) ?_
  refine x_bipush (v := 101) dX12_init_1411 (by decide) ?_
  obtain ⟨n53, c52, H⟩ := ka_o H
  obtain ⟨c54, H⟩ := chk_o H
  refine x_cast dX12_init_1413 c52 (inb_in.mp c54) ?_
  refine x_dup dX12_init_1414 rfl ?_
  refine x_iconst (v := 1) dX12_init_1415 (by decide) ?_
  refine x_bipush (v := 120) dX12_init_1416 (by decide) ?_
  obtain ⟨c55, H⟩ := chk_o H
  refine x_cast dX12_init_1418 c52 (inb_in.mp c55) ?_
  refine x_dup dX12_init_1419 rfl ?_
  refine x_iconst (v := 2) dX12_init_1420 (by decide) ?_
  refine x_bipush (v := 112) dX12_init_1421 (by decide) ?_
  obtain ⟨c56, H⟩ := chk_o H
  refine x_cast dX12_init_1423 c52 (inb_in.mp c56) ?_
  obtain ⟨c57, H⟩ := ko_o H
  refine x_putR fl_X12_195 dX12_init_1424 c57 (fun _ => rfl) rfl ?_
  exact t_X12_init_1427 hd H
def f_X12_init_1367 (x0 : Nat) (h : aH) : Option (Unit × aH) :=
  nm (hN h) fun (a59 : Nat) =>
  nm (nw h (.inr (.char, 6)) 6) fun (h58 : aH) =>
  ka h58 a59 .char fun n61 =>
  chk (inb 0 n61 = true) <|
  chk (inb 1 n61 = true) <|
  chk (inb 2 n61 = true) <|
  chk (inb 3 n61 = true) <|
  chk (inb 4 n61 = true) <|
  chk (inb 5 n61 = true) <|
  ko h58 x0 11 <|
  f_X12_init_1405 x0 (sR (sI (sI (sI (sI (sI (sI h58 a59 (0 : Int32).toNatClampNeg ((110 : Int32).toUInt32.toUInt16.toUInt32.toInt32)) a59 (1 : Int32).toNatClampNeg ((117 : Int32).toUInt32.toUInt16.toUInt32.toInt32)) a59 (2 : Int32).toNatClampNeg ((109 : Int32).toUInt32.toUInt16.toUInt32.toInt32)) a59 (3 : Int32).toNatClampNeg ((98 : Int32).toUInt32.toUInt16.toUInt32.toInt32)) a59 (4 : Int32).toNatClampNeg ((101 : Int32).toUInt32.toUInt16.toUInt32.toInt32)) a59 (5 : Int32).toNatClampNeg ((114 : Int32).toUInt32.toUInt16.toUInt32.toInt32)) x0 85 (some a59))
set_option maxRecDepth 100000 in
set_option maxHeartbeats 4000000 in
theorem t_X12_init_1367 {Γ : gS} {d : Nat} (hd : 1 ≤ d) {x0 : Nat} {h : aH} {r : Unit} {h' : aH} (H : f_X12_init_1367 x0 h = some (r, h')) : Ex Γ gX12_init d 1367 [(0, .ref x0)] [] h none h' := by
  unfold f_X12_init_1367 at H
  obtain ⟨d, rfl⟩ : ∃ e, d = e + 1 := ⟨d - 1, by omega⟩
  refine x_aload_n dX12_init_1367 rfl 0 rfl ?_
  refine x_bipush (v := 6) dX12_init_1368 (by decide) ?_
  obtain ⟨a59, ea59, H⟩ := nm_o H
  obtain ⟨h58, eh58, H⟩ := nm_o H
  refine x_newa (t := .char) (N := 6) dX12_init_1370 rfl (by decide) rfl ac_char (by decide) (by decide) (by decide) ?_
  rw [ea59]
  refine Ex.ren eh58 ?_
  refine x_dup dX12_init_1372 rfl ?_
  refine x_iconst (v := 0) dX12_init_1373 (by decide) ?_
  refine x_bipush (v := 110) dX12_init_1374 (by decide) ?_
  obtain ⟨n61, c60, H⟩ := ka_o H
  obtain ⟨c62, H⟩ := chk_o H
  refine x_cast dX12_init_1376 c60 (inb_in.mp c62) ?_
  refine x_dup dX12_init_1377 rfl ?_
  refine x_iconst (v := 1) dX12_init_1378 (by decide) ?_
  refine x_bipush (v := 117) dX12_init_1379 (by decide) ?_
  obtain ⟨c63, H⟩ := chk_o H
  refine x_cast dX12_init_1381 c60 (inb_in.mp c63) ?_
  refine x_dup dX12_init_1382 rfl ?_
  refine x_iconst (v := 2) dX12_init_1383 (by decide) ?_
  refine x_bipush (v := 109) dX12_init_1384 (by decide) ?_
  obtain ⟨c64, H⟩ := chk_o H
  refine x_cast dX12_init_1386 c60 (inb_in.mp c64) ?_
  refine x_dup dX12_init_1387 rfl ?_
  refine x_iconst (v := 3) dX12_init_1388 (by decide) ?_
  refine x_bipush (v := 98) dX12_init_1389 (by decide) ?_
  obtain ⟨c65, H⟩ := chk_o H
  refine x_cast dX12_init_1391 c60 (inb_in.mp c65) ?_
  refine x_dup dX12_init_1392 rfl ?_
  refine x_iconst (v := 4) dX12_init_1393 (by decide) ?_
  refine x_bipush (v := 101) dX12_init_1394 (by decide) ?_
  obtain ⟨c66, H⟩ := chk_o H
  refine x_cast dX12_init_1396 c60 (inb_in.mp c66) ?_
  refine x_dup dX12_init_1397 rfl ?_
  refine x_iconst (v := 5) dX12_init_1398 (by decide) ?_
  refine x_bipush (v := 114) dX12_init_1399 (by decide) ?_
  obtain ⟨c67, H⟩ := chk_o H
  refine x_cast dX12_init_1401 c60 (inb_in.mp c67) ?_
  obtain ⟨c68, H⟩ := ko_o H
  refine x_putR fl_X12_192 dX12_init_1402 c68 (fun _ => rfl) rfl ?_
  exact t_X12_init_1405 hd H
def f_X12_init_1335 (x0 : Nat) (h : aH) : Option (Unit × aH) :=
  nm (hN h) fun (a70 : Nat) =>
  nm (nw h (.inr (.char, 5)) 5) fun (h69 : aH) =>
  ka h69 a70 .char fun n72 =>
  chk (inb 0 n72 = true) <|
  chk (inb 1 n72 = true) <|
  chk (inb 2 n72 = true) <|
  chk (inb 3 n72 = true) <|
  chk (inb 4 n72 = true) <|
  ko h69 x0 11 <|
  f_X12_init_1367 x0 (sR (sI (sI (sI (sI (sI h69 a70 (0 : Int32).toNatClampNeg ((112 : Int32).toUInt32.toUInt16.toUInt32.toInt32)) a70 (1 : Int32).toNatClampNeg ((101 : Int32).toUInt32.toUInt16.toUInt32.toInt32)) a70 (2 : Int32).toNatClampNeg ((114 : Int32).toUInt32.toUInt16.toUInt32.toInt32)) a70 (3 : Int32).toNatClampNeg ((109 : Int32).toUInt32.toUInt16.toUInt32.toInt32)) a70 (4 : Int32).toNatClampNeg ((115 : Int32).toUInt32.toUInt16.toUInt32.toInt32)) x0 84 (some a70))
set_option maxRecDepth 100000 in
set_option maxHeartbeats 4000000 in
theorem t_X12_init_1335 {Γ : gS} {d : Nat} (hd : 1 ≤ d) {x0 : Nat} {h : aH} {r : Unit} {h' : aH} (H : f_X12_init_1335 x0 h = some (r, h')) : Ex Γ gX12_init d 1335 [(0, .ref x0)] [] h none h' := by
  unfold f_X12_init_1335 at H
  obtain ⟨d, rfl⟩ : ∃ e, d = e + 1 := ⟨d - 1, by omega⟩
  refine x_aload_n dX12_init_1335 rfl 0 rfl ?_
  refine x_iconst (v := 5) dX12_init_1336 (by decide) ?_
  obtain ⟨a70, ea70, H⟩ := nm_o H
  obtain ⟨h69, eh69, H⟩ := nm_o H
  refine x_newa (t := .char) (N := 5) dX12_init_1337 rfl (by decide) rfl ac_char (by decide) (by decide) (by decide) ?_
  rw [ea70]
  refine Ex.ren eh69 ?_
  refine x_dup dX12_init_1339 rfl ?_
  refine x_iconst (v := 0) dX12_init_1340 (by decide) ?_
  refine x_bipush (v := 112) dX12_init_1341 (by decide) ?_
  obtain ⟨n72, c71, H⟩ := ka_o H
  obtain ⟨c73, H⟩ := chk_o H
  refine x_cast dX12_init_1343 c71 (inb_in.mp c73) ?_
  refine x_dup dX12_init_1344 rfl ?_
  refine x_iconst (v := 1) dX12_init_1345 (by decide) ?_
  refine x_bipush (v := 101) dX12_init_1346 (by decide) ?_
  obtain ⟨c74, H⟩ := chk_o H
  refine x_cast dX12_init_1348 c71 (inb_in.mp c74) ?_
  refine x_dup dX12_init_1349 rfl ?_
  refine x_iconst (v := 2) dX12_init_1350 (by decide) ?_
  refine x_bipush (v := 114) dX12_init_1351 (by decide) ?_
  obtain ⟨c75, H⟩ := chk_o H
  refine x_cast dX12_init_1353 c71 (inb_in.mp c75) ?_
  refine x_dup dX12_init_1354 rfl ?_
  refine x_iconst (v := 3) dX12_init_1355 (by decide) ?_
  refine x_bipush (v := 109) dX12_init_1356 (by decide) ?_
  obtain ⟨c76, H⟩ := chk_o H
  refine x_cast dX12_init_1358 c71 (inb_in.mp c76) ?_
  refine x_dup dX12_init_1359 rfl ?_
  refine x_iconst (v := 4) dX12_init_1360 (by decide) ?_
  refine x_bipush (v := 115) dX12_init_1361 (by decide) ?_
  obtain ⟨c77, H⟩ := chk_o H
  refine x_cast dX12_init_1363 c71 (inb_in.mp c77) ?_
  obtain ⟨c78, H⟩ := ko_o H
  refine x_putR fl_X12_189 dX12_init_1364 c78 (fun _ => rfl) rfl ?_
  exact t_X12_init_1367 hd H
def f_X12_init_1297 (x0 : Nat) (h : aH) : Option (Unit × aH) :=
  nm (hN h) fun (a80 : Nat) =>
  nm (nw h (.inr (.char, 6)) 6) fun (h79 : aH) =>
  ka h79 a80 .char fun n82 =>
  chk (inb 0 n82 = true) <|
  chk (inb 1 n82 = true) <|
  chk (inb 2 n82 = true) <|
  chk (inb 3 n82 = true) <|
  chk (inb 4 n82 = true) <|
  chk (inb 5 n82 = true) <|
  ko h79 x0 11 <|
  f_X12_init_1335 x0 (sR (sI (sI (sI (sI (sI (sI h79 a80 (0 : Int32).toNatClampNeg ((108 : Int32).toUInt32.toUInt16.toUInt32.toInt32)) a80 (1 : Int32).toNatClampNeg ((101 : Int32).toUInt32.toUInt16.toUInt32.toInt32)) a80 (2 : Int32).toNatClampNeg ((110 : Int32).toUInt32.toUInt16.toUInt32.toInt32)) a80 (3 : Int32).toNatClampNeg ((103 : Int32).toUInt32.toUInt16.toUInt32.toInt32)) a80 (4 : Int32).toNatClampNeg ((116 : Int32).toUInt32.toUInt16.toUInt32.toInt32)) a80 (5 : Int32).toNatClampNeg ((104 : Int32).toUInt32.toUInt16.toUInt32.toInt32)) x0 83 (some a80))
set_option maxRecDepth 100000 in
set_option maxHeartbeats 4000000 in
theorem t_X12_init_1297 {Γ : gS} {d : Nat} (hd : 1 ≤ d) {x0 : Nat} {h : aH} {r : Unit} {h' : aH} (H : f_X12_init_1297 x0 h = some (r, h')) : Ex Γ gX12_init d 1297 [(0, .ref x0)] [] h none h' := by
  unfold f_X12_init_1297 at H
  obtain ⟨d, rfl⟩ : ∃ e, d = e + 1 := ⟨d - 1, by omega⟩
  refine x_aload_n dX12_init_1297 rfl 0 rfl ?_
  refine x_bipush (v := 6) dX12_init_1298 (by decide) ?_
  obtain ⟨a80, ea80, H⟩ := nm_o H
  obtain ⟨h79, eh79, H⟩ := nm_o H
  refine x_newa (t := .char) (N := 6) dX12_init_1300 rfl (by decide) rfl ac_char (by decide) (by decide) (by decide) ?_
  rw [ea80]
  refine Ex.ren eh79 ?_
  refine x_dup dX12_init_1302 rfl ?_
  refine x_iconst (v := 0) dX12_init_1303 (by decide) ?_
  refine x_bipush (v := 108) dX12_init_1304 (by decide) ?_
  obtain ⟨n82, c81, H⟩ := ka_o H
  obtain ⟨c83, H⟩ := chk_o H
  refine x_cast dX12_init_1306 c81 (inb_in.mp c83) ?_
  refine x_dup dX12_init_1307 rfl ?_
  refine x_iconst (v := 1) dX12_init_1308 (by decide) ?_
  refine x_bipush (v := 101) dX12_init_1309 (by decide) ?_
  obtain ⟨c84, H⟩ := chk_o H
  refine x_cast dX12_init_1311 c81 (inb_in.mp c84) ?_
  refine x_dup dX12_init_1312 rfl ?_
  refine x_iconst (v := 2) dX12_init_1313 (by decide) ?_
  refine x_bipush (v := 110) dX12_init_1314 (by decide) ?_
  obtain ⟨c85, H⟩ := chk_o H
  refine x_cast dX12_init_1316 c81 (inb_in.mp c85) ?_
  refine x_dup dX12_init_1317 rfl ?_
  refine x_iconst (v := 3) dX12_init_1318 (by decide) ?_
  refine x_bipush (v := 103) dX12_init_1319 (by decide) ?_
  obtain ⟨c86, H⟩ := chk_o H
  refine x_cast dX12_init_1321 c81 (inb_in.mp c86) ?_
  refine x_dup dX12_init_1322 rfl ?_
  refine x_iconst (v := 4) dX12_init_1323 (by decide) ?_
  refine x_bipush (v := 116) dX12_init_1324 (by decide) ?_
  obtain ⟨c87, H⟩ := chk_o H
  refine x_cast dX12_init_1326 c81 (inb_in.mp c87) ?_
  refine x_dup dX12_init_1327 rfl ?_
  refine x_iconst (v := 5) dX12_init_1328 (by decide) ?_
  refine x_bipush (v := 104) dX12_init_1329 (by decide) ?_
  obtain ⟨c88, H⟩ := chk_o H
  refine x_cast dX12_init_1331 c81 (inb_in.mp c88) ?_
  obtain ⟨c89, H⟩ := ko_o H
  refine x_putR fl_X12_186 dX12_init_1332 c89 (fun _ => rfl) rfl ?_
  exact t_X12_init_1335 hd H
def f_X12_init_1270 (x0 : Nat) (h : aH) : Option (Unit × aH) :=
  nm (hN h) fun (a91 : Nat) =>
  nm (nw h (.inr (.char, 4)) 4) fun (h90 : aH) =>
  ka h90 a91 .char fun n93 =>
  chk (inb 0 n93 = true) <|
  chk (inb 1 n93 = true) <|
  chk (inb 2 n93 = true) <|
  chk (inb 3 n93 = true) <|
  ko h90 x0 11 <|
  f_X12_init_1297 x0 (sR (sI (sI (sI (sI h90 a91 (0 : Int32).toNatClampNeg ((98 : Int32).toUInt32.toUInt16.toUInt32.toInt32)) a91 (1 : Int32).toNatClampNeg ((97 : Int32).toUInt32.toUInt16.toUInt32.toInt32)) a91 (2 : Int32).toNatClampNeg ((115 : Int32).toUInt32.toUInt16.toUInt32.toInt32)) a91 (3 : Int32).toNatClampNeg ((101 : Int32).toUInt32.toUInt16.toUInt32.toInt32)) x0 82 (some a91))
set_option maxRecDepth 100000 in
set_option maxHeartbeats 4000000 in
theorem t_X12_init_1270 {Γ : gS} {d : Nat} (hd : 1 ≤ d) {x0 : Nat} {h : aH} {r : Unit} {h' : aH} (H : f_X12_init_1270 x0 h = some (r, h')) : Ex Γ gX12_init d 1270 [(0, .ref x0)] [] h none h' := by
  unfold f_X12_init_1270 at H
  obtain ⟨d, rfl⟩ : ∃ e, d = e + 1 := ⟨d - 1, by omega⟩
  refine x_aload_n dX12_init_1270 rfl 0 rfl ?_
  refine x_iconst (v := 4) dX12_init_1271 (by decide) ?_
  obtain ⟨a91, ea91, H⟩ := nm_o H
  obtain ⟨h90, eh90, H⟩ := nm_o H
  refine x_newa (t := .char) (N := 4) dX12_init_1272 rfl (by decide) rfl ac_char (by decide) (by decide) (by decide) ?_
  rw [ea91]
  refine Ex.ren eh90 ?_
  refine x_dup dX12_init_1274 rfl ?_
  refine x_iconst (v := 0) dX12_init_1275 (by decide) ?_
  refine x_bipush (v := 98) dX12_init_1276 (by decide) ?_
  obtain ⟨n93, c92, H⟩ := ka_o H
  obtain ⟨c94, H⟩ := chk_o H
  refine x_cast dX12_init_1278 c92 (inb_in.mp c94) ?_
  refine x_dup dX12_init_1279 rfl ?_
  refine x_iconst (v := 1) dX12_init_1280 (by decide) ?_
  refine x_bipush (v := 97) dX12_init_1281 (by decide) ?_
  obtain ⟨c95, H⟩ := chk_o H
  refine x_cast dX12_init_1283 c92 (inb_in.mp c95) ?_
  refine x_dup dX12_init_1284 rfl ?_
  refine x_iconst (v := 2) dX12_init_1285 (by decide) ?_
  refine x_bipush (v := 115) dX12_init_1286 (by decide) ?_
  obtain ⟨c96, H⟩ := chk_o H
  refine x_cast dX12_init_1288 c92 (inb_in.mp c96) ?_
  refine x_dup dX12_init_1289 rfl ?_
  refine x_iconst (v := 3) dX12_init_1290 (by decide) ?_
  refine x_bipush (v := 101) dX12_init_1291 (by decide) ?_
  obtain ⟨c97, H⟩ := chk_o H
  refine x_cast dX12_init_1293 c92 (inb_in.mp c97) ?_
  obtain ⟨c98, H⟩ := ko_o H
  refine x_putR fl_X12_183 dX12_init_1294 c98 (fun _ => rfl) rfl ?_
  exact t_X12_init_1297 hd H
def f_X12_init_1253 (x0 : Nat) (h : aH) : Option (Unit × aH) :=
  nm (hN h) fun (a100 : Nat) =>
  nm (nw h (.inr (.char, 2)) 2) fun (h99 : aH) =>
  ka h99 a100 .char fun n102 =>
  chk (inb 0 n102 = true) <|
  chk (inb 1 n102 = true) <|
  ko h99 x0 11 <|
  f_X12_init_1270 x0 (sR (sI (sI h99 a100 (0 : Int32).toNatClampNeg ((97 : Int32).toUInt32.toUInt16.toUInt32.toInt32)) a100 (1 : Int32).toNatClampNeg ((116 : Int32).toUInt32.toUInt16.toUInt32.toInt32)) x0 81 (some a100))
set_option maxRecDepth 100000 in
set_option maxHeartbeats 4000000 in
theorem t_X12_init_1253 {Γ : gS} {d : Nat} (hd : 1 ≤ d) {x0 : Nat} {h : aH} {r : Unit} {h' : aH} (H : f_X12_init_1253 x0 h = some (r, h')) : Ex Γ gX12_init d 1253 [(0, .ref x0)] [] h none h' := by
  unfold f_X12_init_1253 at H
  obtain ⟨d, rfl⟩ : ∃ e, d = e + 1 := ⟨d - 1, by omega⟩
  refine x_aload_n dX12_init_1253 rfl 0 rfl ?_
  refine x_iconst (v := 2) dX12_init_1254 (by decide) ?_
  obtain ⟨a100, ea100, H⟩ := nm_o H
  obtain ⟨h99, eh99, H⟩ := nm_o H
  refine x_newa (t := .char) (N := 2) dX12_init_1255 rfl (by decide) rfl ac_char (by decide) (by decide) (by decide) ?_
  rw [ea100]
  refine Ex.ren eh99 ?_
  refine x_dup dX12_init_1257 rfl ?_
  refine x_iconst (v := 0) dX12_init_1258 (by decide) ?_
  refine x_bipush (v := 97) dX12_init_1259 (by decide) ?_
  obtain ⟨n102, c101, H⟩ := ka_o H
  obtain ⟨c103, H⟩ := chk_o H
  refine x_cast dX12_init_1261 c101 (inb_in.mp c103) ?_
  refine x_dup dX12_init_1262 rfl ?_
  refine x_iconst (v := 1) dX12_init_1263 (by decide) ?_
  refine x_bipush (v := 116) dX12_init_1264 (by decide) ?_
  obtain ⟨c104, H⟩ := chk_o H
  refine x_cast dX12_init_1266 c101 (inb_in.mp c104) ?_
  obtain ⟨c105, H⟩ := ko_o H
  refine x_putR fl_X12_180 dX12_init_1267 c105 (fun _ => rfl) rfl ?_
  exact t_X12_init_1270 hd H
def f_X12_init_1226 (x0 : Nat) (h : aH) : Option (Unit × aH) :=
  nm (hN h) fun (a107 : Nat) =>
  nm (nw h (.inr (.char, 4)) 4) fun (h106 : aH) =>
  ka h106 a107 .char fun n109 =>
  chk (inb 0 n109 = true) <|
  chk (inb 1 n109 = true) <|
  chk (inb 2 n109 = true) <|
  chk (inb 3 n109 = true) <|
  ko h106 x0 11 <|
  f_X12_init_1253 x0 (sR (sI (sI (sI (sI h106 a107 (0 : Int32).toNatClampNeg ((114 : Int32).toUInt32.toUInt16.toUInt32.toInt32)) a107 (1 : Int32).toNatClampNeg ((111 : Int32).toUInt32.toUInt16.toUInt32.toInt32)) a107 (2 : Int32).toNatClampNeg ((111 : Int32).toUInt32.toUInt16.toUInt32.toInt32)) a107 (3 : Int32).toNatClampNeg ((109 : Int32).toUInt32.toUInt16.toUInt32.toInt32)) x0 80 (some a107))
set_option maxRecDepth 100000 in
set_option maxHeartbeats 4000000 in
theorem t_X12_init_1226 {Γ : gS} {d : Nat} (hd : 1 ≤ d) {x0 : Nat} {h : aH} {r : Unit} {h' : aH} (H : f_X12_init_1226 x0 h = some (r, h')) : Ex Γ gX12_init d 1226 [(0, .ref x0)] [] h none h' := by
  unfold f_X12_init_1226 at H
  obtain ⟨d, rfl⟩ : ∃ e, d = e + 1 := ⟨d - 1, by omega⟩
  refine x_aload_n dX12_init_1226 rfl 0 rfl ?_
  refine x_iconst (v := 4) dX12_init_1227 (by decide) ?_
  obtain ⟨a107, ea107, H⟩ := nm_o H
  obtain ⟨h106, eh106, H⟩ := nm_o H
  refine x_newa (t := .char) (N := 4) dX12_init_1228 rfl (by decide) rfl ac_char (by decide) (by decide) (by decide) ?_
  rw [ea107]
  refine Ex.ren eh106 ?_
  refine x_dup dX12_init_1230 rfl ?_
  refine x_iconst (v := 0) dX12_init_1231 (by decide) ?_
  refine x_bipush (v := 114) dX12_init_1232 (by decide) ?_
  obtain ⟨n109, c108, H⟩ := ka_o H
  obtain ⟨c110, H⟩ := chk_o H
  refine x_cast dX12_init_1234 c108 (inb_in.mp c110) ?_
  refine x_dup dX12_init_1235 rfl ?_
  refine x_iconst (v := 1) dX12_init_1236 (by decide) ?_
  refine x_bipush (v := 111) dX12_init_1237 (by decide) ?_
  obtain ⟨c111, H⟩ := chk_o H
  refine x_cast dX12_init_1239 c108 (inb_in.mp c111) ?_
  refine x_dup dX12_init_1240 rfl ?_
  refine x_iconst (v := 2) dX12_init_1241 (by decide) ?_
  refine x_bipush (v := 111) dX12_init_1242 (by decide) ?_
  obtain ⟨c112, H⟩ := chk_o H
  refine x_cast dX12_init_1244 c108 (inb_in.mp c112) ?_
  refine x_dup dX12_init_1245 rfl ?_
  refine x_iconst (v := 3) dX12_init_1246 (by decide) ?_
  refine x_bipush (v := 109) dX12_init_1247 (by decide) ?_
  obtain ⟨c113, H⟩ := chk_o H
  refine x_cast dX12_init_1249 c108 (inb_in.mp c113) ?_
  obtain ⟨c114, H⟩ := ko_o H
  refine x_putR fl_X12_177 dX12_init_1250 c114 (fun _ => rfl) rfl ?_
  exact t_X12_init_1253 hd H
def f_X12_init_1194 (x0 : Nat) (h : aH) : Option (Unit × aH) :=
  nm (hN h) fun (a116 : Nat) =>
  nm (nw h (.inr (.char, 5)) 5) fun (h115 : aH) =>
  ka h115 a116 .char fun n118 =>
  chk (inb 0 n118 = true) <|
  chk (inb 1 n118 = true) <|
  chk (inb 2 n118 = true) <|
  chk (inb 3 n118 = true) <|
  chk (inb 4 n118 = true) <|
  ko h115 x0 11 <|
  f_X12_init_1226 x0 (sR (sI (sI (sI (sI (sI h115 a116 (0 : Int32).toNatClampNeg ((115 : Int32).toUInt32.toUInt16.toUInt32.toInt32)) a116 (1 : Int32).toNatClampNeg ((116 : Int32).toUInt32.toUInt16.toUInt32.toInt32)) a116 (2 : Int32).toNatClampNeg ((97 : Int32).toUInt32.toUInt16.toUInt32.toInt32)) a116 (3 : Int32).toNatClampNeg ((114 : Int32).toUInt32.toUInt16.toUInt32.toInt32)) a116 (4 : Int32).toNatClampNeg ((116 : Int32).toUInt32.toUInt16.toUInt32.toInt32)) x0 79 (some a116))
set_option maxRecDepth 100000 in
set_option maxHeartbeats 4000000 in
theorem t_X12_init_1194 {Γ : gS} {d : Nat} (hd : 1 ≤ d) {x0 : Nat} {h : aH} {r : Unit} {h' : aH} (H : f_X12_init_1194 x0 h = some (r, h')) : Ex Γ gX12_init d 1194 [(0, .ref x0)] [] h none h' := by
  unfold f_X12_init_1194 at H
  obtain ⟨d, rfl⟩ : ∃ e, d = e + 1 := ⟨d - 1, by omega⟩
  refine x_aload_n dX12_init_1194 rfl 0 rfl ?_
  refine x_iconst (v := 5) dX12_init_1195 (by decide) ?_
  obtain ⟨a116, ea116, H⟩ := nm_o H
  obtain ⟨h115, eh115, H⟩ := nm_o H
  refine x_newa (t := .char) (N := 5) dX12_init_1196 rfl (by decide) rfl ac_char (by decide) (by decide) (by decide) ?_
  rw [ea116]
  refine Ex.ren eh115 ?_
  refine x_dup dX12_init_1198 rfl ?_
  refine x_iconst (v := 0) dX12_init_1199 (by decide) ?_
  refine x_bipush (v := 115) dX12_init_1200 (by decide) ?_
  obtain ⟨n118, c117, H⟩ := ka_o H
  obtain ⟨c119, H⟩ := chk_o H
  refine x_cast dX12_init_1202 c117 (inb_in.mp c119) ?_
  refine x_dup dX12_init_1203 rfl ?_
  refine x_iconst (v := 1) dX12_init_1204 (by decide) ?_
  refine x_bipush (v := 116) dX12_init_1205 (by decide) ?_
  obtain ⟨c120, H⟩ := chk_o H
  refine x_cast dX12_init_1207 c117 (inb_in.mp c120) ?_
  refine x_dup dX12_init_1208 rfl ?_
  refine x_iconst (v := 2) dX12_init_1209 (by decide) ?_
  refine x_bipush (v := 97) dX12_init_1210 (by decide) ?_
  obtain ⟨c121, H⟩ := chk_o H
  refine x_cast dX12_init_1212 c117 (inb_in.mp c121) ?_
  refine x_dup dX12_init_1213 rfl ?_
  refine x_iconst (v := 3) dX12_init_1214 (by decide) ?_
  refine x_bipush (v := 114) dX12_init_1215 (by decide) ?_
  obtain ⟨c122, H⟩ := chk_o H
  refine x_cast dX12_init_1217 c117 (inb_in.mp c122) ?_
  refine x_dup dX12_init_1218 rfl ?_
  refine x_iconst (v := 4) dX12_init_1219 (by decide) ?_
  refine x_bipush (v := 116) dX12_init_1220 (by decide) ?_
  obtain ⟨c123, H⟩ := chk_o H
  refine x_cast dX12_init_1222 c117 (inb_in.mp c123) ?_
  obtain ⟨c124, H⟩ := ko_o H
  refine x_putR fl_X12_174 dX12_init_1223 c124 (fun _ => rfl) rfl ?_
  exact t_X12_init_1226 hd H
def f_X12_init_1167 (x0 : Nat) (h : aH) : Option (Unit × aH) :=
  nm (hN h) fun (a126 : Nat) =>
  nm (nw h (.inr (.char, 4)) 4) fun (h125 : aH) =>
  ka h125 a126 .char fun n128 =>
  chk (inb 0 n128 = true) <|
  chk (inb 1 n128 = true) <|
  chk (inb 2 n128 = true) <|
  chk (inb 3 n128 = true) <|
  ko h125 x0 11 <|
  f_X12_init_1194 x0 (sR (sI (sI (sI (sI h125 a126 (0 : Int32).toNatClampNeg ((110 : Int32).toUInt32.toUInt16.toUInt32.toInt32)) a126 (1 : Int32).toNatClampNeg ((101 : Int32).toUInt32.toUInt16.toUInt32.toInt32)) a126 (2 : Int32).toNatClampNeg ((101 : Int32).toUInt32.toUInt16.toUInt32.toInt32)) a126 (3 : Int32).toNatClampNeg ((100 : Int32).toUInt32.toUInt16.toUInt32.toInt32)) x0 78 (some a126))
set_option maxRecDepth 100000 in
set_option maxHeartbeats 4000000 in
theorem t_X12_init_1167 {Γ : gS} {d : Nat} (hd : 1 ≤ d) {x0 : Nat} {h : aH} {r : Unit} {h' : aH} (H : f_X12_init_1167 x0 h = some (r, h')) : Ex Γ gX12_init d 1167 [(0, .ref x0)] [] h none h' := by
  unfold f_X12_init_1167 at H
  obtain ⟨d, rfl⟩ : ∃ e, d = e + 1 := ⟨d - 1, by omega⟩
  refine x_aload_n dX12_init_1167 rfl 0 rfl ?_
  refine x_iconst (v := 4) dX12_init_1168 (by decide) ?_
  obtain ⟨a126, ea126, H⟩ := nm_o H
  obtain ⟨h125, eh125, H⟩ := nm_o H
  refine x_newa (t := .char) (N := 4) dX12_init_1169 rfl (by decide) rfl ac_char (by decide) (by decide) (by decide) ?_
  rw [ea126]
  refine Ex.ren eh125 ?_
  refine x_dup dX12_init_1171 rfl ?_
  refine x_iconst (v := 0) dX12_init_1172 (by decide) ?_
  refine x_bipush (v := 110) dX12_init_1173 (by decide) ?_
  obtain ⟨n128, c127, H⟩ := ka_o H
  obtain ⟨c129, H⟩ := chk_o H
  refine x_cast dX12_init_1175 c127 (inb_in.mp c129) ?_
  refine x_dup dX12_init_1176 rfl ?_
  refine x_iconst (v := 1) dX12_init_1177 (by decide) ?_
  refine x_bipush (v := 101) dX12_init_1178 (by decide) ?_
  obtain ⟨c130, H⟩ := chk_o H
  refine x_cast dX12_init_1180 c127 (inb_in.mp c130) ?_
  refine x_dup dX12_init_1181 rfl ?_
  refine x_iconst (v := 2) dX12_init_1182 (by decide) ?_
  refine x_bipush (v := 101) dX12_init_1183 (by decide) ?_
  obtain ⟨c131, H⟩ := chk_o H
  refine x_cast dX12_init_1185 c127 (inb_in.mp c131) ?_
  refine x_dup dX12_init_1186 rfl ?_
  refine x_iconst (v := 3) dX12_init_1187 (by decide) ?_
  refine x_bipush (v := 100) dX12_init_1188 (by decide) ?_
  obtain ⟨c132, H⟩ := chk_o H
  refine x_cast dX12_init_1190 c127 (inb_in.mp c132) ?_
  obtain ⟨c133, H⟩ := ko_o H
  refine x_putR fl_X12_171 dX12_init_1191 c133 (fun _ => rfl) rfl ?_
  exact t_X12_init_1194 hd H
def f_X12_init_1145 (x0 : Nat) (h : aH) : Option (Unit × aH) :=
  nm (hN h) fun (a135 : Nat) =>
  nm (nw h (.inr (.char, 3)) 3) fun (h134 : aH) =>
  ka h134 a135 .char fun n137 =>
  chk (inb 0 n137 = true) <|
  chk (inb 1 n137 = true) <|
  chk (inb 2 n137 = true) <|
  ko h134 x0 11 <|
  f_X12_init_1167 x0 (sR (sI (sI (sI h134 a135 (0 : Int32).toNatClampNeg ((109 : Int32).toUInt32.toUInt16.toUInt32.toInt32)) a135 (1 : Int32).toNatClampNeg ((97 : Int32).toUInt32.toUInt16.toUInt32.toInt32)) a135 (2 : Int32).toNatClampNeg ((120 : Int32).toUInt32.toUInt16.toUInt32.toInt32)) x0 77 (some a135))
set_option maxRecDepth 100000 in
set_option maxHeartbeats 4000000 in
theorem t_X12_init_1145 {Γ : gS} {d : Nat} (hd : 1 ≤ d) {x0 : Nat} {h : aH} {r : Unit} {h' : aH} (H : f_X12_init_1145 x0 h = some (r, h')) : Ex Γ gX12_init d 1145 [(0, .ref x0)] [] h none h' := by
  unfold f_X12_init_1145 at H
  obtain ⟨d, rfl⟩ : ∃ e, d = e + 1 := ⟨d - 1, by omega⟩
  refine x_aload_n dX12_init_1145 rfl 0 rfl ?_
  refine x_iconst (v := 3) dX12_init_1146 (by decide) ?_
  obtain ⟨a135, ea135, H⟩ := nm_o H
  obtain ⟨h134, eh134, H⟩ := nm_o H
  refine x_newa (t := .char) (N := 3) dX12_init_1147 rfl (by decide) rfl ac_char (by decide) (by decide) (by decide) ?_
  rw [ea135]
  refine Ex.ren eh134 ?_
  refine x_dup dX12_init_1149 rfl ?_
  refine x_iconst (v := 0) dX12_init_1150 (by decide) ?_
  refine x_bipush (v := 109) dX12_init_1151 (by decide) ?_
  obtain ⟨n137, c136, H⟩ := ka_o H
  obtain ⟨c138, H⟩ := chk_o H
  refine x_cast dX12_init_1153 c136 (inb_in.mp c138) ?_
  refine x_dup dX12_init_1154 rfl ?_
  refine x_iconst (v := 1) dX12_init_1155 (by decide) ?_
  refine x_bipush (v := 97) dX12_init_1156 (by decide) ?_
  obtain ⟨c139, H⟩ := chk_o H
  refine x_cast dX12_init_1158 c136 (inb_in.mp c139) ?_
  refine x_dup dX12_init_1159 rfl ?_
  refine x_iconst (v := 2) dX12_init_1160 (by decide) ?_
  refine x_bipush (v := 120) dX12_init_1161 (by decide) ?_
  obtain ⟨c140, H⟩ := chk_o H
  refine x_cast dX12_init_1163 c136 (inb_in.mp c140) ?_
  obtain ⟨c141, H⟩ := ko_o H
  refine x_putR fl_X12_168 dX12_init_1164 c141 (fun _ => rfl) rfl ?_
  exact t_X12_init_1167 hd H
def f_X12_init_1123 (x0 : Nat) (h : aH) : Option (Unit × aH) :=
  nm (hN h) fun (a143 : Nat) =>
  nm (nw h (.inr (.char, 3)) 3) fun (h142 : aH) =>
  ka h142 a143 .char fun n145 =>
  chk (inb 0 n145 = true) <|
  chk (inb 1 n145 = true) <|
  chk (inb 2 n145 = true) <|
  ko h142 x0 11 <|
  f_X12_init_1145 x0 (sR (sI (sI (sI h142 a143 (0 : Int32).toNatClampNeg ((109 : Int32).toUInt32.toUInt16.toUInt32.toInt32)) a143 (1 : Int32).toNatClampNeg ((105 : Int32).toUInt32.toUInt16.toUInt32.toInt32)) a143 (2 : Int32).toNatClampNeg ((110 : Int32).toUInt32.toUInt16.toUInt32.toInt32)) x0 76 (some a143))
set_option maxRecDepth 100000 in
set_option maxHeartbeats 4000000 in
theorem t_X12_init_1123 {Γ : gS} {d : Nat} (hd : 1 ≤ d) {x0 : Nat} {h : aH} {r : Unit} {h' : aH} (H : f_X12_init_1123 x0 h = some (r, h')) : Ex Γ gX12_init d 1123 [(0, .ref x0)] [] h none h' := by
  unfold f_X12_init_1123 at H
  obtain ⟨d, rfl⟩ : ∃ e, d = e + 1 := ⟨d - 1, by omega⟩
  refine x_aload_n dX12_init_1123 rfl 0 rfl ?_
  refine x_iconst (v := 3) dX12_init_1124 (by decide) ?_
  obtain ⟨a143, ea143, H⟩ := nm_o H
  obtain ⟨h142, eh142, H⟩ := nm_o H
  refine x_newa (t := .char) (N := 3) dX12_init_1125 rfl (by decide) rfl ac_char (by decide) (by decide) (by decide) ?_
  rw [ea143]
  refine Ex.ren eh142 ?_
  refine x_dup dX12_init_1127 rfl ?_
  refine x_iconst (v := 0) dX12_init_1128 (by decide) ?_
  refine x_bipush (v := 109) dX12_init_1129 (by decide) ?_
  obtain ⟨n145, c144, H⟩ := ka_o H
  obtain ⟨c146, H⟩ := chk_o H
  refine x_cast dX12_init_1131 c144 (inb_in.mp c146) ?_
  refine x_dup dX12_init_1132 rfl ?_
  refine x_iconst (v := 1) dX12_init_1133 (by decide) ?_
  refine x_bipush (v := 105) dX12_init_1134 (by decide) ?_
  obtain ⟨c147, H⟩ := chk_o H
  refine x_cast dX12_init_1136 c144 (inb_in.mp c147) ?_
  refine x_dup dX12_init_1137 rfl ?_
  refine x_iconst (v := 2) dX12_init_1138 (by decide) ?_
  refine x_bipush (v := 110) dX12_init_1139 (by decide) ?_
  obtain ⟨c148, H⟩ := chk_o H
  refine x_cast dX12_init_1141 c144 (inb_in.mp c148) ?_
  obtain ⟨c149, H⟩ := ko_o H
  refine x_putR fl_X12_165 dX12_init_1142 c149 (fun _ => rfl) rfl ?_
  exact t_X12_init_1145 hd H
def f_X12_init_1101 (x0 : Nat) (h : aH) : Option (Unit × aH) :=
  nm (hN h) fun (a151 : Nat) =>
  nm (nw h (.inr (.char, 3)) 3) fun (h150 : aH) =>
  ka h150 a151 .char fun n153 =>
  chk (inb 0 n153 = true) <|
  chk (inb 1 n153 = true) <|
  chk (inb 2 n153 = true) <|
  ko h150 x0 11 <|
  f_X12_init_1123 x0 (sR (sI (sI (sI h150 a151 (0 : Int32).toNatClampNeg ((97 : Int32).toUInt32.toUInt16.toUInt32.toInt32)) a151 (1 : Int32).toNatClampNeg ((108 : Int32).toUInt32.toUInt16.toUInt32.toInt32)) a151 (2 : Int32).toNatClampNeg ((108 : Int32).toUInt32.toUInt16.toUInt32.toInt32)) x0 75 (some a151))
set_option maxRecDepth 100000 in
set_option maxHeartbeats 4000000 in
theorem t_X12_init_1101 {Γ : gS} {d : Nat} (hd : 1 ≤ d) {x0 : Nat} {h : aH} {r : Unit} {h' : aH} (H : f_X12_init_1101 x0 h = some (r, h')) : Ex Γ gX12_init d 1101 [(0, .ref x0)] [] h none h' := by
  unfold f_X12_init_1101 at H
  obtain ⟨d, rfl⟩ : ∃ e, d = e + 1 := ⟨d - 1, by omega⟩
  refine x_aload_n dX12_init_1101 rfl 0 rfl ?_
  refine x_iconst (v := 3) dX12_init_1102 (by decide) ?_
  obtain ⟨a151, ea151, H⟩ := nm_o H
  obtain ⟨h150, eh150, H⟩ := nm_o H
  refine x_newa (t := .char) (N := 3) dX12_init_1103 rfl (by decide) rfl ac_char (by decide) (by decide) (by decide) ?_
  rw [ea151]
  refine Ex.ren eh150 ?_
  refine x_dup dX12_init_1105 rfl ?_
  refine x_iconst (v := 0) dX12_init_1106 (by decide) ?_
  refine x_bipush (v := 97) dX12_init_1107 (by decide) ?_
  obtain ⟨n153, c152, H⟩ := ka_o H
  obtain ⟨c154, H⟩ := chk_o H
  refine x_cast dX12_init_1109 c152 (inb_in.mp c154) ?_
  refine x_dup dX12_init_1110 rfl ?_
  refine x_iconst (v := 1) dX12_init_1111 (by decide) ?_
  refine x_bipush (v := 108) dX12_init_1112 (by decide) ?_
  obtain ⟨c155, H⟩ := chk_o H
  refine x_cast dX12_init_1114 c152 (inb_in.mp c155) ?_
  refine x_dup dX12_init_1115 rfl ?_
  refine x_iconst (v := 2) dX12_init_1116 (by decide) ?_
  refine x_bipush (v := 108) dX12_init_1117 (by decide) ?_
  obtain ⟨c156, H⟩ := chk_o H
  refine x_cast dX12_init_1119 c152 (inb_in.mp c156) ?_
  obtain ⟨c157, H⟩ := ko_o H
  refine x_putR fl_X12_162 dX12_init_1120 c157 (fun _ => rfl) rfl ?_
  exact t_X12_init_1123 hd H
def f_X12_init_1084 (x0 : Nat) (h : aH) : Option (Unit × aH) :=
  nm (hN h) fun (a159 : Nat) =>
  nm (nw h (.inr (.char, 2)) 2) fun (h158 : aH) =>
  ka h158 a159 .char fun n161 =>
  chk (inb 0 n161 = true) <|
  chk (inb 1 n161 = true) <|
  ko h158 x0 11 <|
  f_X12_init_1101 x0 (sR (sI (sI h158 a159 (0 : Int32).toNatClampNeg ((111 : Int32).toUInt32.toUInt16.toUInt32.toInt32)) a159 (1 : Int32).toNatClampNeg ((114 : Int32).toUInt32.toUInt16.toUInt32.toInt32)) x0 74 (some a159))
set_option maxRecDepth 100000 in
set_option maxHeartbeats 4000000 in
theorem t_X12_init_1084 {Γ : gS} {d : Nat} (hd : 1 ≤ d) {x0 : Nat} {h : aH} {r : Unit} {h' : aH} (H : f_X12_init_1084 x0 h = some (r, h')) : Ex Γ gX12_init d 1084 [(0, .ref x0)] [] h none h' := by
  unfold f_X12_init_1084 at H
  obtain ⟨d, rfl⟩ : ∃ e, d = e + 1 := ⟨d - 1, by omega⟩
  refine x_aload_n dX12_init_1084 rfl 0 rfl ?_
  refine x_iconst (v := 2) dX12_init_1085 (by decide) ?_
  obtain ⟨a159, ea159, H⟩ := nm_o H
  obtain ⟨h158, eh158, H⟩ := nm_o H
  refine x_newa (t := .char) (N := 2) dX12_init_1086 rfl (by decide) rfl ac_char (by decide) (by decide) (by decide) ?_
  rw [ea159]
  refine Ex.ren eh158 ?_
  refine x_dup dX12_init_1088 rfl ?_
  refine x_iconst (v := 0) dX12_init_1089 (by decide) ?_
  refine x_bipush (v := 111) dX12_init_1090 (by decide) ?_
  obtain ⟨n161, c160, H⟩ := ka_o H
  obtain ⟨c162, H⟩ := chk_o H
  refine x_cast dX12_init_1092 c160 (inb_in.mp c162) ?_
  refine x_dup dX12_init_1093 rfl ?_
  refine x_iconst (v := 1) dX12_init_1094 (by decide) ?_
  refine x_bipush (v := 114) dX12_init_1095 (by decide) ?_
  obtain ⟨c163, H⟩ := chk_o H
  refine x_cast dX12_init_1097 c160 (inb_in.mp c163) ?_
  obtain ⟨c164, H⟩ := ko_o H
  refine x_putR fl_X12_159 dX12_init_1098 c164 (fun _ => rfl) rfl ?_
  exact t_X12_init_1101 hd H
def f_X12_init_1062 (x0 : Nat) (h : aH) : Option (Unit × aH) :=
  nm (hN h) fun (a166 : Nat) =>
  nm (nw h (.inr (.char, 3)) 3) fun (h165 : aH) =>
  ka h165 a166 .char fun n168 =>
  chk (inb 0 n168 = true) <|
  chk (inb 1 n168 = true) <|
  chk (inb 2 n168 = true) <|
  ko h165 x0 11 <|
  f_X12_init_1084 x0 (sR (sI (sI (sI h165 a166 (0 : Int32).toNatClampNeg ((97 : Int32).toUInt32.toUInt16.toUInt32.toInt32)) a166 (1 : Int32).toNatClampNeg ((110 : Int32).toUInt32.toUInt16.toUInt32.toInt32)) a166 (2 : Int32).toNatClampNeg ((100 : Int32).toUInt32.toUInt16.toUInt32.toInt32)) x0 73 (some a166))
set_option maxRecDepth 100000 in
set_option maxHeartbeats 4000000 in
theorem t_X12_init_1062 {Γ : gS} {d : Nat} (hd : 1 ≤ d) {x0 : Nat} {h : aH} {r : Unit} {h' : aH} (H : f_X12_init_1062 x0 h = some (r, h')) : Ex Γ gX12_init d 1062 [(0, .ref x0)] [] h none h' := by
  unfold f_X12_init_1062 at H
  obtain ⟨d, rfl⟩ : ∃ e, d = e + 1 := ⟨d - 1, by omega⟩
  refine x_aload_n dX12_init_1062 rfl 0 rfl ?_
  refine x_iconst (v := 3) dX12_init_1063 (by decide) ?_
  obtain ⟨a166, ea166, H⟩ := nm_o H
  obtain ⟨h165, eh165, H⟩ := nm_o H
  refine x_newa (t := .char) (N := 3) dX12_init_1064 rfl (by decide) rfl ac_char (by decide) (by decide) (by decide) ?_
  rw [ea166]
  refine Ex.ren eh165 ?_
  refine x_dup dX12_init_1066 rfl ?_
  refine x_iconst (v := 0) dX12_init_1067 (by decide) ?_
  refine x_bipush (v := 97) dX12_init_1068 (by decide) ?_
  obtain ⟨n168, c167, H⟩ := ka_o H
  obtain ⟨c169, H⟩ := chk_o H
  refine x_cast dX12_init_1070 c167 (inb_in.mp c169) ?_
  refine x_dup dX12_init_1071 rfl ?_
  refine x_iconst (v := 1) dX12_init_1072 (by decide) ?_
  refine x_bipush (v := 110) dX12_init_1073 (by decide) ?_
  obtain ⟨c170, H⟩ := chk_o H
  refine x_cast dX12_init_1075 c167 (inb_in.mp c170) ?_
  refine x_dup dX12_init_1076 rfl ?_
  refine x_iconst (v := 2) dX12_init_1077 (by decide) ?_
  refine x_bipush (v := 100) dX12_init_1078 (by decide) ?_
  obtain ⟨c171, H⟩ := chk_o H
  refine x_cast dX12_init_1080 c167 (inb_in.mp c171) ?_
  obtain ⟨c172, H⟩ := ko_o H
  refine x_putR fl_X12_156 dX12_init_1081 c172 (fun _ => rfl) rfl ?_
  exact t_X12_init_1084 hd H
def f_X12_init_1040 (x0 : Nat) (h : aH) : Option (Unit × aH) :=
  nm (hN h) fun (a174 : Nat) =>
  nm (nw h (.inr (.char, 3)) 3) fun (h173 : aH) =>
  ka h173 a174 .char fun n176 =>
  chk (inb 0 n176 = true) <|
  chk (inb 1 n176 = true) <|
  chk (inb 2 n176 = true) <|
  ko h173 x0 11 <|
  f_X12_init_1062 x0 (sR (sI (sI (sI h173 a174 (0 : Int32).toNatClampNeg ((110 : Int32).toUInt32.toUInt16.toUInt32.toInt32)) a174 (1 : Int32).toNatClampNeg ((111 : Int32).toUInt32.toUInt16.toUInt32.toInt32)) a174 (2 : Int32).toNatClampNeg ((116 : Int32).toUInt32.toUInt16.toUInt32.toInt32)) x0 72 (some a174))
set_option maxRecDepth 100000 in
set_option maxHeartbeats 4000000 in
theorem t_X12_init_1040 {Γ : gS} {d : Nat} (hd : 1 ≤ d) {x0 : Nat} {h : aH} {r : Unit} {h' : aH} (H : f_X12_init_1040 x0 h = some (r, h')) : Ex Γ gX12_init d 1040 [(0, .ref x0)] [] h none h' := by
  unfold f_X12_init_1040 at H
  obtain ⟨d, rfl⟩ : ∃ e, d = e + 1 := ⟨d - 1, by omega⟩
  refine x_aload_n dX12_init_1040 rfl 0 rfl ?_
  refine x_iconst (v := 3) dX12_init_1041 (by decide) ?_
  obtain ⟨a174, ea174, H⟩ := nm_o H
  obtain ⟨h173, eh173, H⟩ := nm_o H
  refine x_newa (t := .char) (N := 3) dX12_init_1042 rfl (by decide) rfl ac_char (by decide) (by decide) (by decide) ?_
  rw [ea174]
  refine Ex.ren eh173 ?_
  refine x_dup dX12_init_1044 rfl ?_
  refine x_iconst (v := 0) dX12_init_1045 (by decide) ?_
  refine x_bipush (v := 110) dX12_init_1046 (by decide) ?_
  obtain ⟨n176, c175, H⟩ := ka_o H
  obtain ⟨c177, H⟩ := chk_o H
  refine x_cast dX12_init_1048 c175 (inb_in.mp c177) ?_
  refine x_dup dX12_init_1049 rfl ?_
  refine x_iconst (v := 1) dX12_init_1050 (by decide) ?_
  refine x_bipush (v := 111) dX12_init_1051 (by decide) ?_
  obtain ⟨c178, H⟩ := chk_o H
  refine x_cast dX12_init_1053 c175 (inb_in.mp c178) ?_
  refine x_dup dX12_init_1054 rfl ?_
  refine x_iconst (v := 2) dX12_init_1055 (by decide) ?_
  refine x_bipush (v := 116) dX12_init_1056 (by decide) ?_
  obtain ⟨c179, H⟩ := chk_o H
  refine x_cast dX12_init_1058 c175 (inb_in.mp c179) ?_
  obtain ⟨c180, H⟩ := ko_o H
  refine x_putR fl_X12_153 dX12_init_1059 c180 (fun _ => rfl) rfl ?_
  exact t_X12_init_1062 hd H
def f_X12_init_1008 (x0 : Nat) (h : aH) : Option (Unit × aH) :=
  nm (hN h) fun (a182 : Nat) =>
  nm (nw h (.inr (.char, 5)) 5) fun (h181 : aH) =>
  ka h181 a182 .char fun n184 =>
  chk (inb 0 n184 = true) <|
  chk (inb 1 n184 = true) <|
  chk (inb 2 n184 = true) <|
  chk (inb 3 n184 = true) <|
  chk (inb 4 n184 = true) <|
  ko h181 x0 11 <|
  f_X12_init_1040 x0 (sR (sI (sI (sI (sI (sI h181 a182 (0 : Int32).toNatClampNeg ((108 : Int32).toUInt32.toUInt16.toUInt32.toInt32)) a182 (1 : Int32).toNatClampNeg ((101 : Int32).toUInt32.toUInt16.toUInt32.toInt32)) a182 (2 : Int32).toNatClampNeg ((97 : Int32).toUInt32.toUInt16.toUInt32.toInt32)) a182 (3 : Int32).toNatClampNeg ((115 : Int32).toUInt32.toUInt16.toUInt32.toInt32)) a182 (4 : Int32).toNatClampNeg ((116 : Int32).toUInt32.toUInt16.toUInt32.toInt32)) x0 71 (some a182))
set_option maxRecDepth 100000 in
set_option maxHeartbeats 4000000 in
theorem t_X12_init_1008 {Γ : gS} {d : Nat} (hd : 1 ≤ d) {x0 : Nat} {h : aH} {r : Unit} {h' : aH} (H : f_X12_init_1008 x0 h = some (r, h')) : Ex Γ gX12_init d 1008 [(0, .ref x0)] [] h none h' := by
  unfold f_X12_init_1008 at H
  obtain ⟨d, rfl⟩ : ∃ e, d = e + 1 := ⟨d - 1, by omega⟩
  refine x_aload_n dX12_init_1008 rfl 0 rfl ?_
  refine x_iconst (v := 5) dX12_init_1009 (by decide) ?_
  obtain ⟨a182, ea182, H⟩ := nm_o H
  obtain ⟨h181, eh181, H⟩ := nm_o H
  refine x_newa (t := .char) (N := 5) dX12_init_1010 rfl (by decide) rfl ac_char (by decide) (by decide) (by decide) ?_
  rw [ea182]
  refine Ex.ren eh181 ?_
  refine x_dup dX12_init_1012 rfl ?_
  refine x_iconst (v := 0) dX12_init_1013 (by decide) ?_
  refine x_bipush (v := 108) dX12_init_1014 (by decide) ?_
  obtain ⟨n184, c183, H⟩ := ka_o H
  obtain ⟨c185, H⟩ := chk_o H
  refine x_cast dX12_init_1016 c183 (inb_in.mp c185) ?_
  refine x_dup dX12_init_1017 rfl ?_
  refine x_iconst (v := 1) dX12_init_1018 (by decide) ?_
  refine x_bipush (v := 101) dX12_init_1019 (by decide) ?_
  obtain ⟨c186, H⟩ := chk_o H
  refine x_cast dX12_init_1021 c183 (inb_in.mp c186) ?_
  refine x_dup dX12_init_1022 rfl ?_
  refine x_iconst (v := 2) dX12_init_1023 (by decide) ?_
  refine x_bipush (v := 97) dX12_init_1024 (by decide) ?_
  obtain ⟨c187, H⟩ := chk_o H
  refine x_cast dX12_init_1026 c183 (inb_in.mp c187) ?_
  refine x_dup dX12_init_1027 rfl ?_
  refine x_iconst (v := 3) dX12_init_1028 (by decide) ?_
  refine x_bipush (v := 115) dX12_init_1029 (by decide) ?_
  obtain ⟨c188, H⟩ := chk_o H
  refine x_cast dX12_init_1031 c183 (inb_in.mp c188) ?_
  refine x_dup dX12_init_1032 rfl ?_
  refine x_iconst (v := 4) dX12_init_1033 (by decide) ?_
  refine x_bipush (v := 116) dX12_init_1034 (by decide) ?_
  obtain ⟨c189, H⟩ := chk_o H
  refine x_cast dX12_init_1036 c183 (inb_in.mp c189) ?_
  obtain ⟨c190, H⟩ := ko_o H
  refine x_putR fl_X12_150 dX12_init_1037 c190 (fun _ => rfl) rfl ?_
  exact t_X12_init_1040 hd H
def f_X12_init_981 (x0 : Nat) (h : aH) : Option (Unit × aH) :=
  nm (hN h) fun (a192 : Nat) =>
  nm (nw h (.inr (.char, 4)) 4) fun (h191 : aH) =>
  ka h191 a192 .char fun n194 =>
  chk (inb 0 n194 = true) <|
  chk (inb 1 n194 = true) <|
  chk (inb 2 n194 = true) <|
  chk (inb 3 n194 = true) <|
  ko h191 x0 11 <|
  f_X12_init_1008 x0 (sR (sI (sI (sI (sI h191 a192 (0 : Int32).toNatClampNeg ((109 : Int32).toUInt32.toUInt16.toUInt32.toInt32)) a192 (1 : Int32).toNatClampNeg ((111 : Int32).toUInt32.toUInt16.toUInt32.toInt32)) a192 (2 : Int32).toNatClampNeg ((115 : Int32).toUInt32.toUInt16.toUInt32.toInt32)) a192 (3 : Int32).toNatClampNeg ((116 : Int32).toUInt32.toUInt16.toUInt32.toInt32)) x0 70 (some a192))
set_option maxRecDepth 100000 in
set_option maxHeartbeats 4000000 in
theorem t_X12_init_981 {Γ : gS} {d : Nat} (hd : 1 ≤ d) {x0 : Nat} {h : aH} {r : Unit} {h' : aH} (H : f_X12_init_981 x0 h = some (r, h')) : Ex Γ gX12_init d 981 [(0, .ref x0)] [] h none h' := by
  unfold f_X12_init_981 at H
  obtain ⟨d, rfl⟩ : ∃ e, d = e + 1 := ⟨d - 1, by omega⟩
  refine x_aload_n dX12_init_981 rfl 0 rfl ?_
  refine x_iconst (v := 4) dX12_init_982 (by decide) ?_
  obtain ⟨a192, ea192, H⟩ := nm_o H
  obtain ⟨h191, eh191, H⟩ := nm_o H
  refine x_newa (t := .char) (N := 4) dX12_init_983 rfl (by decide) rfl ac_char (by decide) (by decide) (by decide) ?_
  rw [ea192]
  refine Ex.ren eh191 ?_
  refine x_dup dX12_init_985 rfl ?_
  refine x_iconst (v := 0) dX12_init_986 (by decide) ?_
  refine x_bipush (v := 109) dX12_init_987 (by decide) ?_
  obtain ⟨n194, c193, H⟩ := ka_o H
  obtain ⟨c195, H⟩ := chk_o H
  refine x_cast dX12_init_989 c193 (inb_in.mp c195) ?_
  refine x_dup dX12_init_990 rfl ?_
  refine x_iconst (v := 1) dX12_init_991 (by decide) ?_
  refine x_bipush (v := 111) dX12_init_992 (by decide) ?_
  obtain ⟨c196, H⟩ := chk_o H
  refine x_cast dX12_init_994 c193 (inb_in.mp c196) ?_
  refine x_dup dX12_init_995 rfl ?_
  refine x_iconst (v := 2) dX12_init_996 (by decide) ?_
  refine x_bipush (v := 115) dX12_init_997 (by decide) ?_
  obtain ⟨c197, H⟩ := chk_o H
  refine x_cast dX12_init_999 c193 (inb_in.mp c197) ?_
  refine x_dup dX12_init_1000 rfl ?_
  refine x_iconst (v := 3) dX12_init_1001 (by decide) ?_
  refine x_bipush (v := 116) dX12_init_1002 (by decide) ?_
  obtain ⟨c198, H⟩ := chk_o H
  refine x_cast dX12_init_1004 c193 (inb_in.mp c198) ?_
  obtain ⟨c199, H⟩ := ko_o H
  refine x_putR fl_X12_147 dX12_init_1005 c199 (fun _ => rfl) rfl ?_
  exact t_X12_init_1008 hd H
def f_X12_init_949 (x0 : Nat) (h : aH) : Option (Unit × aH) :=
  nm (hN h) fun (a201 : Nat) =>
  nm (nw h (.inr (.char, 5)) 5) fun (h200 : aH) =>
  ka h200 a201 .char fun n203 =>
  chk (inb 0 n203 = true) <|
  chk (inb 1 n203 = true) <|
  chk (inb 2 n203 = true) <|
  chk (inb 3 n203 = true) <|
  chk (inb 4 n203 = true) <|
  ko h200 x0 11 <|
  f_X12_init_981 x0 (sR (sI (sI (sI (sI (sI h200 a201 (0 : Int32).toNatClampNeg ((116 : Int32).toUInt32.toUInt16.toUInt32.toInt32)) a201 (1 : Int32).toNatClampNeg ((111 : Int32).toUInt32.toUInt16.toUInt32.toInt32)) a201 (2 : Int32).toNatClampNeg ((116 : Int32).toUInt32.toUInt16.toUInt32.toInt32)) a201 (3 : Int32).toNatClampNeg ((97 : Int32).toUInt32.toUInt16.toUInt32.toInt32)) a201 (4 : Int32).toNatClampNeg ((108 : Int32).toUInt32.toUInt16.toUInt32.toInt32)) x0 69 (some a201))
set_option maxRecDepth 100000 in
set_option maxHeartbeats 4000000 in
theorem t_X12_init_949 {Γ : gS} {d : Nat} (hd : 1 ≤ d) {x0 : Nat} {h : aH} {r : Unit} {h' : aH} (H : f_X12_init_949 x0 h = some (r, h')) : Ex Γ gX12_init d 949 [(0, .ref x0)] [] h none h' := by
  unfold f_X12_init_949 at H
  obtain ⟨d, rfl⟩ : ∃ e, d = e + 1 := ⟨d - 1, by omega⟩
  refine x_aload_n dX12_init_949 rfl 0 rfl ?_
  refine x_iconst (v := 5) dX12_init_950 (by decide) ?_
  obtain ⟨a201, ea201, H⟩ := nm_o H
  obtain ⟨h200, eh200, H⟩ := nm_o H
  refine x_newa (t := .char) (N := 5) dX12_init_951 rfl (by decide) rfl ac_char (by decide) (by decide) (by decide) ?_
  rw [ea201]
  refine Ex.ren eh200 ?_
  refine x_dup dX12_init_953 rfl ?_
  refine x_iconst (v := 0) dX12_init_954 (by decide) ?_
  refine x_bipush (v := 116) dX12_init_955 (by decide) ?_
  obtain ⟨n203, c202, H⟩ := ka_o H
  obtain ⟨c204, H⟩ := chk_o H
  refine x_cast dX12_init_957 c202 (inb_in.mp c204) ?_
  refine x_dup dX12_init_958 rfl ?_
  refine x_iconst (v := 1) dX12_init_959 (by decide) ?_
  refine x_bipush (v := 111) dX12_init_960 (by decide) ?_
  obtain ⟨c205, H⟩ := chk_o H
  refine x_cast dX12_init_962 c202 (inb_in.mp c205) ?_
  refine x_dup dX12_init_963 rfl ?_
  refine x_iconst (v := 2) dX12_init_964 (by decide) ?_
  refine x_bipush (v := 116) dX12_init_965 (by decide) ?_
  obtain ⟨c206, H⟩ := chk_o H
  refine x_cast dX12_init_967 c202 (inb_in.mp c206) ?_
  refine x_dup dX12_init_968 rfl ?_
  refine x_iconst (v := 3) dX12_init_969 (by decide) ?_
  refine x_bipush (v := 97) dX12_init_970 (by decide) ?_
  obtain ⟨c207, H⟩ := chk_o H
  refine x_cast dX12_init_972 c202 (inb_in.mp c207) ?_
  refine x_dup dX12_init_973 rfl ?_
  refine x_iconst (v := 4) dX12_init_974 (by decide) ?_
  refine x_bipush (v := 108) dX12_init_975 (by decide) ?_
  obtain ⟨c208, H⟩ := chk_o H
  refine x_cast dX12_init_977 c202 (inb_in.mp c208) ?_
  obtain ⟨c209, H⟩ := ko_o H
  refine x_putR fl_X12_144 dX12_init_978 c209 (fun _ => rfl) rfl ?_
  exact t_X12_init_981 hd H
def f_X12_init_917 (x0 : Nat) (h : aH) : Option (Unit × aH) :=
  nm (hN h) fun (a211 : Nat) =>
  nm (nw h (.inr (.char, 5)) 5) fun (h210 : aH) =>
  ka h210 a211 .char fun n213 =>
  chk (inb 0 n213 = true) <|
  chk (inb 1 n213 = true) <|
  chk (inb 2 n213 = true) <|
  chk (inb 3 n213 = true) <|
  chk (inb 4 n213 = true) <|
  ko h210 x0 11 <|
  f_X12_init_949 x0 (sR (sI (sI (sI (sI (sI h210 a211 (0 : Int32).toNatClampNeg ((111 : Int32).toUInt32.toUInt16.toUInt32.toInt32)) a211 (1 : Int32).toNatClampNeg ((102 : Int32).toUInt32.toUInt16.toUInt32.toInt32)) a211 (2 : Int32).toNatClampNeg ((116 : Int32).toUInt32.toUInt16.toUInt32.toInt32)) a211 (3 : Int32).toNatClampNeg ((101 : Int32).toUInt32.toUInt16.toUInt32.toInt32)) a211 (4 : Int32).toNatClampNeg ((110 : Int32).toUInt32.toUInt16.toUInt32.toInt32)) x0 68 (some a211))
set_option maxRecDepth 100000 in
set_option maxHeartbeats 4000000 in
theorem t_X12_init_917 {Γ : gS} {d : Nat} (hd : 1 ≤ d) {x0 : Nat} {h : aH} {r : Unit} {h' : aH} (H : f_X12_init_917 x0 h = some (r, h')) : Ex Γ gX12_init d 917 [(0, .ref x0)] [] h none h' := by
  unfold f_X12_init_917 at H
  obtain ⟨d, rfl⟩ : ∃ e, d = e + 1 := ⟨d - 1, by omega⟩
  refine x_aload_n dX12_init_917 rfl 0 rfl ?_
  refine x_iconst (v := 5) dX12_init_918 (by decide) ?_
  obtain ⟨a211, ea211, H⟩ := nm_o H
  obtain ⟨h210, eh210, H⟩ := nm_o H
  refine x_newa (t := .char) (N := 5) dX12_init_919 rfl (by decide) rfl ac_char (by decide) (by decide) (by decide) ?_
  rw [ea211]
  refine Ex.ren eh210 ?_
  refine x_dup dX12_init_921 rfl ?_
  refine x_iconst (v := 0) dX12_init_922 (by decide) ?_
  refine x_bipush (v := 111) dX12_init_923 (by decide) ?_
  obtain ⟨n213, c212, H⟩ := ka_o H
  obtain ⟨c214, H⟩ := chk_o H
  refine x_cast dX12_init_925 c212 (inb_in.mp c214) ?_
  refine x_dup dX12_init_926 rfl ?_
  refine x_iconst (v := 1) dX12_init_927 (by decide) ?_
  refine x_bipush (v := 102) dX12_init_928 (by decide) ?_
  obtain ⟨c215, H⟩ := chk_o H
  refine x_cast dX12_init_930 c212 (inb_in.mp c215) ?_
  refine x_dup dX12_init_931 rfl ?_
  refine x_iconst (v := 2) dX12_init_932 (by decide) ?_
  refine x_bipush (v := 116) dX12_init_933 (by decide) ?_
  obtain ⟨c216, H⟩ := chk_o H
  refine x_cast dX12_init_935 c212 (inb_in.mp c216) ?_
  refine x_dup dX12_init_936 rfl ?_
  refine x_iconst (v := 3) dX12_init_937 (by decide) ?_
  refine x_bipush (v := 101) dX12_init_938 (by decide) ?_
  obtain ⟨c217, H⟩ := chk_o H
  refine x_cast dX12_init_940 c212 (inb_in.mp c217) ?_
  refine x_dup dX12_init_941 rfl ?_
  refine x_iconst (v := 4) dX12_init_942 (by decide) ?_
  refine x_bipush (v := 110) dX12_init_943 (by decide) ?_
  obtain ⟨c218, H⟩ := chk_o H
  refine x_cast dX12_init_945 c212 (inb_in.mp c218) ?_
  obtain ⟨c219, H⟩ := ko_o H
  refine x_putR fl_X12_141 dX12_init_946 c219 (fun _ => rfl) rfl ?_
  exact t_X12_init_949 hd H
def f_X12_init_890 (x0 : Nat) (h : aH) : Option (Unit × aH) :=
  nm (hN h) fun (a221 : Nat) =>
  nm (nw h (.inr (.char, 4)) 4) fun (h220 : aH) =>
  ka h220 a221 .char fun n223 =>
  chk (inb 0 n223 = true) <|
  chk (inb 1 n223 = true) <|
  chk (inb 2 n223 = true) <|
  chk (inb 3 n223 = true) <|
  ko h220 x0 11 <|
  f_X12_init_917 x0 (sR (sI (sI (sI (sI h220 a221 (0 : Int32).toNatClampNeg ((108 : Int32).toUInt32.toUInt16.toUInt32.toInt32)) a221 (1 : Int32).toNatClampNeg ((97 : Int32).toUInt32.toUInt16.toUInt32.toInt32)) a221 (2 : Int32).toNatClampNeg ((115 : Int32).toUInt32.toUInt16.toUInt32.toInt32)) a221 (3 : Int32).toNatClampNeg ((116 : Int32).toUInt32.toUInt16.toUInt32.toInt32)) x0 67 (some a221))
set_option maxRecDepth 100000 in
set_option maxHeartbeats 4000000 in
theorem t_X12_init_890 {Γ : gS} {d : Nat} (hd : 1 ≤ d) {x0 : Nat} {h : aH} {r : Unit} {h' : aH} (H : f_X12_init_890 x0 h = some (r, h')) : Ex Γ gX12_init d 890 [(0, .ref x0)] [] h none h' := by
  unfold f_X12_init_890 at H
  obtain ⟨d, rfl⟩ : ∃ e, d = e + 1 := ⟨d - 1, by omega⟩
  refine x_aload_n dX12_init_890 rfl 0 rfl ?_
  refine x_iconst (v := 4) dX12_init_891 (by decide) ?_
  obtain ⟨a221, ea221, H⟩ := nm_o H
  obtain ⟨h220, eh220, H⟩ := nm_o H
  refine x_newa (t := .char) (N := 4) dX12_init_892 rfl (by decide) rfl ac_char (by decide) (by decide) (by decide) ?_
  rw [ea221]
  refine Ex.ren eh220 ?_
  refine x_dup dX12_init_894 rfl ?_
  refine x_iconst (v := 0) dX12_init_895 (by decide) ?_
  refine x_bipush (v := 108) dX12_init_896 (by decide) ?_
  obtain ⟨n223, c222, H⟩ := ka_o H
  obtain ⟨c224, H⟩ := chk_o H
  refine x_cast dX12_init_898 c222 (inb_in.mp c224) ?_
  refine x_dup dX12_init_899 rfl ?_
  refine x_iconst (v := 1) dX12_init_900 (by decide) ?_
  refine x_bipush (v := 97) dX12_init_901 (by decide) ?_
  obtain ⟨c225, H⟩ := chk_o H
  refine x_cast dX12_init_903 c222 (inb_in.mp c225) ?_
  refine x_dup dX12_init_904 rfl ?_
  refine x_iconst (v := 2) dX12_init_905 (by decide) ?_
  refine x_bipush (v := 115) dX12_init_906 (by decide) ?_
  obtain ⟨c226, H⟩ := chk_o H
  refine x_cast dX12_init_908 c222 (inb_in.mp c226) ?_
  refine x_dup dX12_init_909 rfl ?_
  refine x_iconst (v := 3) dX12_init_910 (by decide) ?_
  refine x_bipush (v := 116) dX12_init_911 (by decide) ?_
  obtain ⟨c227, H⟩ := chk_o H
  refine x_cast dX12_init_913 c222 (inb_in.mp c227) ?_
  obtain ⟨c228, H⟩ := ko_o H
  refine x_putR fl_X12_138 dX12_init_914 c228 (fun _ => rfl) rfl ?_
  exact t_X12_init_917 hd H
def f_X12_init_858 (x0 : Nat) (h : aH) : Option (Unit × aH) :=
  nm (hN h) fun (a230 : Nat) =>
  nm (nw h (.inr (.char, 5)) 5) fun (h229 : aH) =>
  ka h229 a230 .char fun n232 =>
  chk (inb 0 n232 = true) <|
  chk (inb 1 n232 = true) <|
  chk (inb 2 n232 = true) <|
  chk (inb 3 n232 = true) <|
  chk (inb 4 n232 = true) <|
  ko h229 x0 11 <|
  f_X12_init_890 x0 (sR (sI (sI (sI (sI (sI h229 a230 (0 : Int32).toNatClampNeg ((102 : Int32).toUInt32.toUInt16.toUInt32.toInt32)) a230 (1 : Int32).toNatClampNeg ((105 : Int32).toUInt32.toUInt16.toUInt32.toInt32)) a230 (2 : Int32).toNatClampNeg ((114 : Int32).toUInt32.toUInt16.toUInt32.toInt32)) a230 (3 : Int32).toNatClampNeg ((115 : Int32).toUInt32.toUInt16.toUInt32.toInt32)) a230 (4 : Int32).toNatClampNeg ((116 : Int32).toUInt32.toUInt16.toUInt32.toInt32)) x0 66 (some a230))
set_option maxRecDepth 100000 in
set_option maxHeartbeats 4000000 in
theorem t_X12_init_858 {Γ : gS} {d : Nat} (hd : 1 ≤ d) {x0 : Nat} {h : aH} {r : Unit} {h' : aH} (H : f_X12_init_858 x0 h = some (r, h')) : Ex Γ gX12_init d 858 [(0, .ref x0)] [] h none h' := by
  unfold f_X12_init_858 at H
  obtain ⟨d, rfl⟩ : ∃ e, d = e + 1 := ⟨d - 1, by omega⟩
  refine x_aload_n dX12_init_858 rfl 0 rfl ?_
  refine x_iconst (v := 5) dX12_init_859 (by decide) ?_
  obtain ⟨a230, ea230, H⟩ := nm_o H
  obtain ⟨h229, eh229, H⟩ := nm_o H
  refine x_newa (t := .char) (N := 5) dX12_init_860 rfl (by decide) rfl ac_char (by decide) (by decide) (by decide) ?_
  rw [ea230]
  refine Ex.ren eh229 ?_
  refine x_dup dX12_init_862 rfl ?_
  refine x_iconst (v := 0) dX12_init_863 (by decide) ?_
  refine x_bipush (v := 102) dX12_init_864 (by decide) ?_
  obtain ⟨n232, c231, H⟩ := ka_o H
  obtain ⟨c233, H⟩ := chk_o H
  refine x_cast dX12_init_866 c231 (inb_in.mp c233) ?_
  refine x_dup dX12_init_867 rfl ?_
  refine x_iconst (v := 1) dX12_init_868 (by decide) ?_
  refine x_bipush (v := 105) dX12_init_869 (by decide) ?_
  obtain ⟨c234, H⟩ := chk_o H
  refine x_cast dX12_init_871 c231 (inb_in.mp c234) ?_
  refine x_dup dX12_init_872 rfl ?_
  refine x_iconst (v := 2) dX12_init_873 (by decide) ?_
  refine x_bipush (v := 114) dX12_init_874 (by decide) ?_
  obtain ⟨c235, H⟩ := chk_o H
  refine x_cast dX12_init_876 c231 (inb_in.mp c235) ?_
  refine x_dup dX12_init_877 rfl ?_
  refine x_iconst (v := 3) dX12_init_878 (by decide) ?_
  refine x_bipush (v := 115) dX12_init_879 (by decide) ?_
  obtain ⟨c236, H⟩ := chk_o H
  refine x_cast dX12_init_881 c231 (inb_in.mp c236) ?_
  refine x_dup dX12_init_882 rfl ?_
  refine x_iconst (v := 4) dX12_init_883 (by decide) ?_
  refine x_bipush (v := 116) dX12_init_884 (by decide) ?_
  obtain ⟨c237, H⟩ := chk_o H
  refine x_cast dX12_init_886 c231 (inb_in.mp c237) ?_
  obtain ⟨c238, H⟩ := ko_o H
  refine x_putR fl_X12_135 dX12_init_887 c238 (fun _ => rfl) rfl ?_
  exact t_X12_init_890 hd H
def f_X12_init_853 (x0 : Nat) (h : aH) : Option (Unit × aH) :=
  ko h x0 11 <|
  f_X12_init_858 x0 (sL h x0 65 1)
set_option maxRecDepth 100000 in
set_option maxHeartbeats 4000000 in
theorem t_X12_init_853 {Γ : gS} {d : Nat} (hd : 1 ≤ d) {x0 : Nat} {h : aH} {r : Unit} {h' : aH} (H : f_X12_init_853 x0 h = some (r, h')) : Ex Γ gX12_init d 853 [(0, .ref x0)] [] h none h' := by
  unfold f_X12_init_853 at H
  obtain ⟨d, rfl⟩ : ∃ e, d = e + 1 := ⟨d - 1, by omega⟩
  refine x_aload_n dX12_init_853 rfl 0 rfl ?_
  refine x_lconst (v := 1) dX12_init_854 (by decide) ?_
  obtain ⟨c239, H⟩ := ko_o H
  refine x_putL fl_X12_131 dX12_init_855 c239 (fun e => by cases e) rfl ?_
  exact t_X12_init_858 hd H
def f_X12_init_844 (x0 : Nat) (h : aH) : Option (Unit × aH) :=
  nm (hN h) fun (a241 : Nat) =>
  nm (nw h (.inr (.int, 29960)) 29960) fun (h240 : aH) =>
  ko h240 x0 11 <|
  f_X12_init_853 x0 (sR h240 x0 62 (some a241))
set_option maxRecDepth 100000 in
set_option maxHeartbeats 4000000 in
theorem t_X12_init_844 {Γ : gS} {d : Nat} (hd : 1 ≤ d) {x0 : Nat} {h : aH} {r : Unit} {h' : aH} (H : f_X12_init_844 x0 h = some (r, h')) : Ex Γ gX12_init d 844 [(0, .ref x0)] [] h none h' := by
  unfold f_X12_init_844 at H
  obtain ⟨d, rfl⟩ : ∃ e, d = e + 1 := ⟨d - 1, by omega⟩
  refine x_aload_n dX12_init_844 rfl 0 rfl ?_
  refine x_sipush (v := 29960) dX12_init_845 (by decide) ?_
  obtain ⟨a241, ea241, H⟩ := nm_o H
  obtain ⟨h240, eh240, H⟩ := nm_o H
  refine x_newa (t := .int) (N := 29960) dX12_init_848 rfl (by decide) rfl ac_int (by decide) (by decide) (by decide) ?_
  rw [ea241]
  refine Ex.ren eh240 ?_
  obtain ⟨c242, H⟩ := ko_o H
  refine x_putR fl_X12_128 dX12_init_850 c242 (fun _ => rfl) rfl ?_
  exact t_X12_init_853 hd H
def f_X12_init_835 (x0 : Nat) (h : aH) : Option (Unit × aH) :=
  nm (hN h) fun (a244 : Nat) =>
  nm (nw h (.inr (.boolean, 4096)) 4096) fun (h243 : aH) =>
  ko h243 x0 11 <|
  f_X12_init_844 x0 (sR h243 x0 60 (some a244))
set_option maxRecDepth 100000 in
set_option maxHeartbeats 4000000 in
theorem t_X12_init_835 {Γ : gS} {d : Nat} (hd : 1 ≤ d) {x0 : Nat} {h : aH} {r : Unit} {h' : aH} (H : f_X12_init_835 x0 h = some (r, h')) : Ex Γ gX12_init d 835 [(0, .ref x0)] [] h none h' := by
  unfold f_X12_init_835 at H
  obtain ⟨d, rfl⟩ : ∃ e, d = e + 1 := ⟨d - 1, by omega⟩
  refine x_aload_n dX12_init_835 rfl 0 rfl ?_
  refine x_sipush (v := 4096) dX12_init_836 (by decide) ?_
  obtain ⟨a244, ea244, H⟩ := nm_o H
  obtain ⟨h243, eh243, H⟩ := nm_o H
  refine x_newa (t := .boolean) (N := 4096) dX12_init_839 rfl (by decide) rfl ac_boolean (by decide) (by decide) (by decide) ?_
  rw [ea244]
  refine Ex.ren eh243 ?_
  obtain ⟨c245, H⟩ := ko_o H
  refine x_putR fl_X12_124 dX12_init_841 c245 (fun _ => rfl) rfl ?_
  exact t_X12_init_844 hd H
def f_X12_init_827 (x0 : Nat) (h : aH) : Option (Unit × aH) :=
  nm (hN h) fun (a247 : Nat) =>
  nm (nw h (.inr (.int, 32)) 32) fun (h246 : aH) =>
  ko h246 x0 11 <|
  f_X12_init_835 x0 (sR h246 x0 59 (some a247))
set_option maxRecDepth 100000 in
set_option maxHeartbeats 4000000 in
theorem t_X12_init_827 {Γ : gS} {d : Nat} (hd : 1 ≤ d) {x0 : Nat} {h : aH} {r : Unit} {h' : aH} (H : f_X12_init_827 x0 h = some (r, h')) : Ex Γ gX12_init d 827 [(0, .ref x0)] [] h none h' := by
  unfold f_X12_init_827 at H
  obtain ⟨d, rfl⟩ : ∃ e, d = e + 1 := ⟨d - 1, by omega⟩
  refine x_aload_n dX12_init_827 rfl 0 rfl ?_
  refine x_bipush (v := 32) dX12_init_828 (by decide) ?_
  obtain ⟨a247, ea247, H⟩ := nm_o H
  obtain ⟨h246, eh246, H⟩ := nm_o H
  refine x_newa (t := .int) (N := 32) dX12_init_830 rfl (by decide) rfl ac_int (by decide) (by decide) (by decide) ?_
  rw [ea247]
  refine Ex.ren eh246 ?_
  obtain ⟨c248, H⟩ := ko_o H
  refine x_putR fl_X12_121 dX12_init_832 c248 (fun _ => rfl) rfl ?_
  exact t_X12_init_835 hd H
def f_X12_init_819 (x0 : Nat) (h : aH) : Option (Unit × aH) :=
  nm (hN h) fun (a250 : Nat) =>
  nm (nw h (.inr (.int, 66)) 66) fun (h249 : aH) =>
  ko h249 x0 11 <|
  f_X12_init_827 x0 (sR h249 x0 56 (some a250))
set_option maxRecDepth 100000 in
set_option maxHeartbeats 4000000 in
theorem t_X12_init_819 {Γ : gS} {d : Nat} (hd : 1 ≤ d) {x0 : Nat} {h : aH} {r : Unit} {h' : aH} (H : f_X12_init_819 x0 h = some (r, h')) : Ex Γ gX12_init d 819 [(0, .ref x0)] [] h none h' := by
  unfold f_X12_init_819 at H
  obtain ⟨d, rfl⟩ : ∃ e, d = e + 1 := ⟨d - 1, by omega⟩
  refine x_aload_n dX12_init_819 rfl 0 rfl ?_
  refine x_bipush (v := 66) dX12_init_820 (by decide) ?_
  obtain ⟨a250, ea250, H⟩ := nm_o H
  obtain ⟨h249, eh249, H⟩ := nm_o H
  refine x_newa (t := .int) (N := 66) dX12_init_822 rfl (by decide) rfl ac_int (by decide) (by decide) (by decide) ?_
  rw [ea250]
  refine Ex.ren eh249 ?_
  obtain ⟨c251, H⟩ := ko_o H
  refine x_putR fl_X12_118 dX12_init_824 c251 (fun _ => rfl) rfl ?_
  exact t_X12_init_827 hd H
def f_X12_init_810 (x0 : Nat) (h : aH) : Option (Unit × aH) :=
  nm (hN h) fun (a253 : Nat) =>
  nm (nw h (.inr (.int, 1498)) 1498) fun (h252 : aH) =>
  ko h252 x0 11 <|
  f_X12_init_819 x0 (sR h252 x0 47 (some a253))
set_option maxRecDepth 100000 in
set_option maxHeartbeats 4000000 in
theorem t_X12_init_810 {Γ : gS} {d : Nat} (hd : 1 ≤ d) {x0 : Nat} {h : aH} {r : Unit} {h' : aH} (H : f_X12_init_810 x0 h = some (r, h')) : Ex Γ gX12_init d 810 [(0, .ref x0)] [] h none h' := by
  unfold f_X12_init_810 at H
  obtain ⟨d, rfl⟩ : ∃ e, d = e + 1 := ⟨d - 1, by omega⟩
  refine x_aload_n dX12_init_810 rfl 0 rfl ?_
  refine x_sipush (v := 1498) dX12_init_811 (by decide) ?_
  obtain ⟨a253, ea253, H⟩ := nm_o H
  obtain ⟨h252, eh252, H⟩ := nm_o H
  refine x_newa (t := .int) (N := 1498) dX12_init_814 rfl (by decide) rfl ac_int (by decide) (by decide) (by decide) ?_
  rw [ea253]
  refine Ex.ren eh252 ?_
  obtain ⟨c254, H⟩ := ko_o H
  refine x_putR fl_X12_115 dX12_init_816 c254 (fun _ => rfl) rfl ?_
  exact t_X12_init_819 hd H
def f_X12_init_801 (x0 : Nat) (h : aH) : Option (Unit × aH) :=
  nm (hN h) fun (a256 : Nat) =>
  nm (nw h (.inr (.int, 3200)) 3200) fun (h255 : aH) =>
  ko h255 x0 11 <|
  f_X12_init_810 x0 (sR h255 x0 42 (some a256))
set_option maxRecDepth 100000 in
set_option maxHeartbeats 4000000 in
theorem t_X12_init_801 {Γ : gS} {d : Nat} (hd : 1 ≤ d) {x0 : Nat} {h : aH} {r : Unit} {h' : aH} (H : f_X12_init_801 x0 h = some (r, h')) : Ex Γ gX12_init d 801 [(0, .ref x0)] [] h none h' := by
  unfold f_X12_init_801 at H
  obtain ⟨d, rfl⟩ : ∃ e, d = e + 1 := ⟨d - 1, by omega⟩
  refine x_aload_n dX12_init_801 rfl 0 rfl ?_
  refine x_sipush (v := 3200) dX12_init_802 (by decide) ?_
  obtain ⟨a256, ea256, H⟩ := nm_o H
  obtain ⟨h255, eh255, H⟩ := nm_o H
  refine x_newa (t := .int) (N := 3200) dX12_init_805 rfl (by decide) rfl ac_int (by decide) (by decide) (by decide) ?_
  rw [ea256]
  refine Ex.ren eh255 ?_
  obtain ⟨c257, H⟩ := ko_o H
  refine x_putR fl_X12_112 dX12_init_807 c257 (fun _ => rfl) rfl ?_
  exact t_X12_init_810 hd H
def f_X12_init_793 (x0 : Nat) (h : aH) : Option (Unit × aH) :=
  nm (hN h) fun (a259 : Nat) =>
  nm (nw h (.inr (.int, 6)) 6) fun (h258 : aH) =>
  ko h258 x0 11 <|
  f_X12_init_801 x0 (sR h258 x0 41 (some a259))
set_option maxRecDepth 100000 in
set_option maxHeartbeats 4000000 in
theorem t_X12_init_793 {Γ : gS} {d : Nat} (hd : 1 ≤ d) {x0 : Nat} {h : aH} {r : Unit} {h' : aH} (H : f_X12_init_793 x0 h = some (r, h')) : Ex Γ gX12_init d 793 [(0, .ref x0)] [] h none h' := by
  unfold f_X12_init_793 at H
  obtain ⟨d, rfl⟩ : ∃ e, d = e + 1 := ⟨d - 1, by omega⟩
  refine x_aload_n dX12_init_793 rfl 0 rfl ?_
  refine x_bipush (v := 6) dX12_init_794 (by decide) ?_
  obtain ⟨a259, ea259, H⟩ := nm_o H
  obtain ⟨h258, eh258, H⟩ := nm_o H
  refine x_newa (t := .int) (N := 6) dX12_init_796 rfl (by decide) rfl ac_int (by decide) (by decide) (by decide) ?_
  rw [ea259]
  refine Ex.ren eh258 ?_
  obtain ⟨c260, H⟩ := ko_o H
  refine x_putR fl_X12_109 dX12_init_798 c260 (fun _ => rfl) rfl ?_
  exact t_X12_init_801 hd H
def f_X12_init_761 (x0 : Nat) (h : aH) : Option (Unit × aH) :=
  nm (hN h) fun (a262 : Nat) =>
  nm (nw h (.inr (.int, 6)) 6) fun (h261 : aH) =>
  ka h261 a262 .int fun n264 =>
  chk (inb 0 n264 = true) <|
  chk (inb 1 n264 = true) <|
  chk (inb 2 n264 = true) <|
  chk (inb 3 n264 = true) <|
  chk (inb 4 n264 = true) <|
  chk (inb 5 n264 = true) <|
  ko h261 x0 11 <|
  f_X12_init_793 x0 (sR (sI (sI (sI (sI (sI (sI h261 a262 (0 : Int32).toNatClampNeg (-1)) a262 (1 : Int32).toNatClampNeg (-1)) a262 (2 : Int32).toNatClampNeg (-1)) a262 (3 : Int32).toNatClampNeg (-1)) a262 (4 : Int32).toNatClampNeg (-1)) a262 (5 : Int32).toNatClampNeg (-1)) x0 40 (some a262))
set_option maxRecDepth 100000 in
set_option maxHeartbeats 4000000 in
theorem t_X12_init_761 {Γ : gS} {d : Nat} (hd : 1 ≤ d) {x0 : Nat} {h : aH} {r : Unit} {h' : aH} (H : f_X12_init_761 x0 h = some (r, h')) : Ex Γ gX12_init d 761 [(0, .ref x0)] [] h none h' := by
  unfold f_X12_init_761 at H
  obtain ⟨d, rfl⟩ : ∃ e, d = e + 1 := ⟨d - 1, by omega⟩
  refine x_aload_n dX12_init_761 rfl 0 rfl ?_
  refine x_bipush (v := 6) dX12_init_762 (by decide) ?_
  obtain ⟨a262, ea262, H⟩ := nm_o H
  obtain ⟨h261, eh261, H⟩ := nm_o H
  refine x_newa (t := .int) (N := 6) dX12_init_764 rfl (by decide) rfl ac_int (by decide) (by decide) (by decide) ?_
  rw [ea262]
  refine Ex.ren eh261 ?_
  refine x_dup dX12_init_766 rfl ?_
  refine x_iconst (v := 0) dX12_init_767 (by decide) ?_
  refine x_iconst (v := (-1)) dX12_init_768 (by decide) ?_
  obtain ⟨n264, c263, H⟩ := ka_o H
  obtain ⟨c265, H⟩ := chk_o H
  refine x_iast dX12_init_769 c263 (inb_in.mp c265) ?_
  refine x_dup dX12_init_770 rfl ?_
  refine x_iconst (v := 1) dX12_init_771 (by decide) ?_
  refine x_iconst (v := (-1)) dX12_init_772 (by decide) ?_
  obtain ⟨c266, H⟩ := chk_o H
  refine x_iast dX12_init_773 c263 (inb_in.mp c266) ?_
  refine x_dup dX12_init_774 rfl ?_
  refine x_iconst (v := 2) dX12_init_775 (by decide) ?_
  refine x_iconst (v := (-1)) dX12_init_776 (by decide) ?_
  obtain ⟨c267, H⟩ := chk_o H
  refine x_iast dX12_init_777 c263 (inb_in.mp c267) ?_
  refine x_dup dX12_init_778 rfl ?_
  refine x_iconst (v := 3) dX12_init_779 (by decide) ?_
  refine x_iconst (v := (-1)) dX12_init_780 (by decide) ?_
  obtain ⟨c268, H⟩ := chk_o H
  refine x_iast dX12_init_781 c263 (inb_in.mp c268) ?_
  refine x_dup dX12_init_782 rfl ?_
  refine x_iconst (v := 4) dX12_init_783 (by decide) ?_
  refine x_iconst (v := (-1)) dX12_init_784 (by decide) ?_
  obtain ⟨c269, H⟩ := chk_o H
  refine x_iast dX12_init_785 c263 (inb_in.mp c269) ?_
  refine x_dup dX12_init_786 rfl ?_
  refine x_iconst (v := 5) dX12_init_787 (by decide) ?_
  refine x_iconst (v := (-1)) dX12_init_788 (by decide) ?_
  obtain ⟨c270, H⟩ := chk_o H
  refine x_iast dX12_init_789 c263 (inb_in.mp c270) ?_
  obtain ⟨c271, H⟩ := ko_o H
  refine x_putR fl_X12_106 dX12_init_790 c271 (fun _ => rfl) rfl ?_
  exact t_X12_init_793 hd H
def f_X12_init_753 (x0 : Nat) (h : aH) : Option (Unit × aH) :=
  nm (hN h) fun (a273 : Nat) =>
  nm (nw h (.inr (.int, 8)) 8) fun (h272 : aH) =>
  ko h272 x0 11 <|
  f_X12_init_761 x0 (sR h272 x0 39 (some a273))
set_option maxRecDepth 100000 in
set_option maxHeartbeats 4000000 in
theorem t_X12_init_753 {Γ : gS} {d : Nat} (hd : 1 ≤ d) {x0 : Nat} {h : aH} {r : Unit} {h' : aH} (H : f_X12_init_753 x0 h = some (r, h')) : Ex Γ gX12_init d 753 [(0, .ref x0)] [] h none h' := by
  unfold f_X12_init_753 at H
  obtain ⟨d, rfl⟩ : ∃ e, d = e + 1 := ⟨d - 1, by omega⟩
  refine x_aload_n dX12_init_753 rfl 0 rfl ?_
  refine x_bipush (v := 8) dX12_init_754 (by decide) ?_
  obtain ⟨a273, ea273, H⟩ := nm_o H
  obtain ⟨h272, eh272, H⟩ := nm_o H
  refine x_newa (t := .int) (N := 8) dX12_init_756 rfl (by decide) rfl ac_int (by decide) (by decide) (by decide) ?_
  rw [ea273]
  refine Ex.ren eh272 ?_
  obtain ⟨c274, H⟩ := ko_o H
  refine x_putR fl_X12_103 dX12_init_758 c274 (fun _ => rfl) rfl ?_
  exact t_X12_init_761 hd H
def f_X12_init_745 (x0 : Nat) (h : aH) : Option (Unit × aH) :=
  nm (hN h) fun (a276 : Nat) =>
  nm (nw h (.inr (.long, 8)) 8) fun (h275 : aH) =>
  ko h275 x0 11 <|
  f_X12_init_753 x0 (sR h275 x0 38 (some a276))
set_option maxRecDepth 100000 in
set_option maxHeartbeats 4000000 in
theorem t_X12_init_745 {Γ : gS} {d : Nat} (hd : 1 ≤ d) {x0 : Nat} {h : aH} {r : Unit} {h' : aH} (H : f_X12_init_745 x0 h = some (r, h')) : Ex Γ gX12_init d 745 [(0, .ref x0)] [] h none h' := by
  unfold f_X12_init_745 at H
  obtain ⟨d, rfl⟩ : ∃ e, d = e + 1 := ⟨d - 1, by omega⟩
  refine x_aload_n dX12_init_745 rfl 0 rfl ?_
  refine x_bipush (v := 8) dX12_init_746 (by decide) ?_
  obtain ⟨a276, ea276, H⟩ := nm_o H
  obtain ⟨h275, eh275, H⟩ := nm_o H
  refine x_newa (t := .long) (N := 8) dX12_init_748 rfl (by decide) rfl ac_long (by decide) (by decide) (by decide) ?_
  rw [ea276]
  refine Ex.ren eh275 ?_
  obtain ⟨c277, H⟩ := ko_o H
  refine x_putR fl_X12_99 dX12_init_750 c277 (fun _ => rfl) rfl ?_
  exact t_X12_init_753 hd H
def f_X12_init_737 (x0 : Nat) (h : aH) : Option (Unit × aH) :=
  nm (hN h) fun (a279 : Nat) =>
  nm (nw h (.inr (.int, 6)) 6) fun (h278 : aH) =>
  ko h278 x0 11 <|
  f_X12_init_745 x0 (sR h278 x0 37 (some a279))
set_option maxRecDepth 100000 in
set_option maxHeartbeats 4000000 in
theorem t_X12_init_737 {Γ : gS} {d : Nat} (hd : 1 ≤ d) {x0 : Nat} {h : aH} {r : Unit} {h' : aH} (H : f_X12_init_737 x0 h = some (r, h')) : Ex Γ gX12_init d 737 [(0, .ref x0)] [] h none h' := by
  unfold f_X12_init_737 at H
  obtain ⟨d, rfl⟩ : ∃ e, d = e + 1 := ⟨d - 1, by omega⟩
  refine x_aload_n dX12_init_737 rfl 0 rfl ?_
  refine x_bipush (v := 6) dX12_init_738 (by decide) ?_
  obtain ⟨a279, ea279, H⟩ := nm_o H
  obtain ⟨h278, eh278, H⟩ := nm_o H
  refine x_newa (t := .int) (N := 6) dX12_init_740 rfl (by decide) rfl ac_int (by decide) (by decide) (by decide) ?_
  rw [ea279]
  refine Ex.ren eh278 ?_
  obtain ⟨c280, H⟩ := ko_o H
  refine x_putR fl_X12_96 dX12_init_742 c280 (fun _ => rfl) rfl ?_
  exact t_X12_init_745 hd H
def f_X12_init_715 (x0 : Nat) (h : aH) : Option (Unit × aH) :=
  nm (hN h) fun (a282 : Nat) =>
  nm (nw h (.inr (.char, 3)) 3) fun (h281 : aH) =>
  ka h281 a282 .char fun n284 =>
  chk (inb 0 n284 = true) <|
  chk (inb 1 n284 = true) <|
  chk (inb 2 n284 = true) <|
  ko h281 x0 11 <|
  f_X12_init_737 x0 (sR (sI (sI (sI h281 a282 (0 : Int32).toNatClampNeg ((109 : Int32).toUInt32.toUInt16.toUInt32.toInt32)) a282 (1 : Int32).toNatClampNeg ((97 : Int32).toUInt32.toUInt16.toUInt32.toInt32)) a282 (2 : Int32).toNatClampNeg ((120 : Int32).toUInt32.toUInt16.toUInt32.toInt32)) x0 35 (some a282))
set_option maxRecDepth 100000 in
set_option maxHeartbeats 4000000 in
theorem t_X12_init_715 {Γ : gS} {d : Nat} (hd : 1 ≤ d) {x0 : Nat} {h : aH} {r : Unit} {h' : aH} (H : f_X12_init_715 x0 h = some (r, h')) : Ex Γ gX12_init d 715 [(0, .ref x0)] [] h none h' := by
  unfold f_X12_init_715 at H
  obtain ⟨d, rfl⟩ : ∃ e, d = e + 1 := ⟨d - 1, by omega⟩
  refine x_aload_n dX12_init_715 rfl 0 rfl ?_
  refine x_iconst (v := 3) dX12_init_716 (by decide) ?_
  obtain ⟨a282, ea282, H⟩ := nm_o H
  obtain ⟨h281, eh281, H⟩ := nm_o H
  refine x_newa (t := .char) (N := 3) dX12_init_717 rfl (by decide) rfl ac_char (by decide) (by decide) (by decide) ?_
  rw [ea282]
  refine Ex.ren eh281 ?_
  refine x_dup dX12_init_719 rfl ?_
  refine x_iconst (v := 0) dX12_init_720 (by decide) ?_
  refine x_bipush (v := 109) dX12_init_721 (by decide) ?_
  obtain ⟨n284, c283, H⟩ := ka_o H
  obtain ⟨c285, H⟩ := chk_o H
  refine x_cast dX12_init_723 c283 (inb_in.mp c285) ?_
  refine x_dup dX12_init_724 rfl ?_
  refine x_iconst (v := 1) dX12_init_725 (by decide) ?_
  refine x_bipush (v := 97) dX12_init_726 (by decide) ?_
  obtain ⟨c286, H⟩ := chk_o H
  refine x_cast dX12_init_728 c283 (inb_in.mp c286) ?_
  refine x_dup dX12_init_729 rfl ?_
  refine x_iconst (v := 2) dX12_init_730 (by decide) ?_
  refine x_bipush (v := 120) dX12_init_731 (by decide) ?_
  obtain ⟨c287, H⟩ := chk_o H
  refine x_cast dX12_init_733 c283 (inb_in.mp c287) ?_
  obtain ⟨c288, H⟩ := ko_o H
  refine x_putR fl_X12_93 dX12_init_734 c288 (fun _ => rfl) rfl ?_
  exact t_X12_init_737 hd H
def f_X12_init_693 (x0 : Nat) (h : aH) : Option (Unit × aH) :=
  nm (hN h) fun (a290 : Nat) =>
  nm (nw h (.inr (.char, 3)) 3) fun (h289 : aH) =>
  ka h289 a290 .char fun n292 =>
  chk (inb 0 n292 = true) <|
  chk (inb 1 n292 = true) <|
  chk (inb 2 n292 = true) <|
  ko h289 x0 11 <|
  f_X12_init_715 x0 (sR (sI (sI (sI h289 a290 (0 : Int32).toNatClampNeg ((109 : Int32).toUInt32.toUInt16.toUInt32.toInt32)) a290 (1 : Int32).toNatClampNeg ((105 : Int32).toUInt32.toUInt16.toUInt32.toInt32)) a290 (2 : Int32).toNatClampNeg ((110 : Int32).toUInt32.toUInt16.toUInt32.toInt32)) x0 34 (some a290))
set_option maxRecDepth 100000 in
set_option maxHeartbeats 4000000 in
theorem t_X12_init_693 {Γ : gS} {d : Nat} (hd : 1 ≤ d) {x0 : Nat} {h : aH} {r : Unit} {h' : aH} (H : f_X12_init_693 x0 h = some (r, h')) : Ex Γ gX12_init d 693 [(0, .ref x0)] [] h none h' := by
  unfold f_X12_init_693 at H
  obtain ⟨d, rfl⟩ : ∃ e, d = e + 1 := ⟨d - 1, by omega⟩
  refine x_aload_n dX12_init_693 rfl 0 rfl ?_
  refine x_iconst (v := 3) dX12_init_694 (by decide) ?_
  obtain ⟨a290, ea290, H⟩ := nm_o H
  obtain ⟨h289, eh289, H⟩ := nm_o H
  refine x_newa (t := .char) (N := 3) dX12_init_695 rfl (by decide) rfl ac_char (by decide) (by decide) (by decide) ?_
  rw [ea290]
  refine Ex.ren eh289 ?_
  refine x_dup dX12_init_697 rfl ?_
  refine x_iconst (v := 0) dX12_init_698 (by decide) ?_
  refine x_bipush (v := 109) dX12_init_699 (by decide) ?_
  obtain ⟨n292, c291, H⟩ := ka_o H
  obtain ⟨c293, H⟩ := chk_o H
  refine x_cast dX12_init_701 c291 (inb_in.mp c293) ?_
  refine x_dup dX12_init_702 rfl ?_
  refine x_iconst (v := 1) dX12_init_703 (by decide) ?_
  refine x_bipush (v := 105) dX12_init_704 (by decide) ?_
  obtain ⟨c294, H⟩ := chk_o H
  refine x_cast dX12_init_706 c291 (inb_in.mp c294) ?_
  refine x_dup dX12_init_707 rfl ?_
  refine x_iconst (v := 2) dX12_init_708 (by decide) ?_
  refine x_bipush (v := 110) dX12_init_709 (by decide) ?_
  obtain ⟨c295, H⟩ := chk_o H
  refine x_cast dX12_init_711 c291 (inb_in.mp c295) ?_
  obtain ⟨c296, H⟩ := ko_o H
  refine x_putR fl_X12_90 dX12_init_712 c296 (fun _ => rfl) rfl ?_
  exact t_X12_init_715 hd H
def f_X12_init_671 (x0 : Nat) (h : aH) : Option (Unit × aH) :=
  nm (hN h) fun (a298 : Nat) =>
  nm (nw h (.inr (.char, 3)) 3) fun (h297 : aH) =>
  ka h297 a298 .char fun n300 =>
  chk (inb 0 n300 = true) <|
  chk (inb 1 n300 = true) <|
  chk (inb 2 n300 = true) <|
  ko h297 x0 11 <|
  f_X12_init_693 x0 (sR (sI (sI (sI h297 a298 (0 : Int32).toNatClampNeg ((97 : Int32).toUInt32.toUInt16.toUInt32.toInt32)) a298 (1 : Int32).toNatClampNeg ((108 : Int32).toUInt32.toUInt16.toUInt32.toInt32)) a298 (2 : Int32).toNatClampNeg ((108 : Int32).toUInt32.toUInt16.toUInt32.toInt32)) x0 33 (some a298))
set_option maxRecDepth 100000 in
set_option maxHeartbeats 4000000 in
theorem t_X12_init_671 {Γ : gS} {d : Nat} (hd : 1 ≤ d) {x0 : Nat} {h : aH} {r : Unit} {h' : aH} (H : f_X12_init_671 x0 h = some (r, h')) : Ex Γ gX12_init d 671 [(0, .ref x0)] [] h none h' := by
  unfold f_X12_init_671 at H
  obtain ⟨d, rfl⟩ : ∃ e, d = e + 1 := ⟨d - 1, by omega⟩
  refine x_aload_n dX12_init_671 rfl 0 rfl ?_
  refine x_iconst (v := 3) dX12_init_672 (by decide) ?_
  obtain ⟨a298, ea298, H⟩ := nm_o H
  obtain ⟨h297, eh297, H⟩ := nm_o H
  refine x_newa (t := .char) (N := 3) dX12_init_673 rfl (by decide) rfl ac_char (by decide) (by decide) (by decide) ?_
  rw [ea298]
  refine Ex.ren eh297 ?_
  refine x_dup dX12_init_675 rfl ?_
  refine x_iconst (v := 0) dX12_init_676 (by decide) ?_
  refine x_bipush (v := 97) dX12_init_677 (by decide) ?_
  obtain ⟨n300, c299, H⟩ := ka_o H
  obtain ⟨c301, H⟩ := chk_o H
  refine x_cast dX12_init_679 c299 (inb_in.mp c301) ?_
  refine x_dup dX12_init_680 rfl ?_
  refine x_iconst (v := 1) dX12_init_681 (by decide) ?_
  refine x_bipush (v := 108) dX12_init_682 (by decide) ?_
  obtain ⟨c302, H⟩ := chk_o H
  refine x_cast dX12_init_684 c299 (inb_in.mp c302) ?_
  refine x_dup dX12_init_685 rfl ?_
  refine x_iconst (v := 2) dX12_init_686 (by decide) ?_
  refine x_bipush (v := 108) dX12_init_687 (by decide) ?_
  obtain ⟨c303, H⟩ := chk_o H
  refine x_cast dX12_init_689 c299 (inb_in.mp c303) ?_
  obtain ⟨c304, H⟩ := ko_o H
  refine x_putR fl_X12_87 dX12_init_690 c304 (fun _ => rfl) rfl ?_
  exact t_X12_init_693 hd H
def f_X12_init_649 (x0 : Nat) (h : aH) : Option (Unit × aH) :=
  nm (hN h) fun (a306 : Nat) =>
  nm (nw h (.inr (.char, 3)) 3) fun (h305 : aH) =>
  ka h305 a306 .char fun n308 =>
  chk (inb 0 n308 = true) <|
  chk (inb 1 n308 = true) <|
  chk (inb 2 n308 = true) <|
  ko h305 x0 11 <|
  f_X12_init_671 x0 (sR (sI (sI (sI h305 a306 (0 : Int32).toNatClampNeg ((110 : Int32).toUInt32.toUInt16.toUInt32.toInt32)) a306 (1 : Int32).toNatClampNeg ((111 : Int32).toUInt32.toUInt16.toUInt32.toInt32)) a306 (2 : Int32).toNatClampNeg ((116 : Int32).toUInt32.toUInt16.toUInt32.toInt32)) x0 32 (some a306))
set_option maxRecDepth 100000 in
set_option maxHeartbeats 4000000 in
theorem t_X12_init_649 {Γ : gS} {d : Nat} (hd : 1 ≤ d) {x0 : Nat} {h : aH} {r : Unit} {h' : aH} (H : f_X12_init_649 x0 h = some (r, h')) : Ex Γ gX12_init d 649 [(0, .ref x0)] [] h none h' := by
  unfold f_X12_init_649 at H
  obtain ⟨d, rfl⟩ : ∃ e, d = e + 1 := ⟨d - 1, by omega⟩
  refine x_aload_n dX12_init_649 rfl 0 rfl ?_
  refine x_iconst (v := 3) dX12_init_650 (by decide) ?_
  obtain ⟨a306, ea306, H⟩ := nm_o H
  obtain ⟨h305, eh305, H⟩ := nm_o H
  refine x_newa (t := .char) (N := 3) dX12_init_651 rfl (by decide) rfl ac_char (by decide) (by decide) (by decide) ?_
  rw [ea306]
  refine Ex.ren eh305 ?_
  refine x_dup dX12_init_653 rfl ?_
  refine x_iconst (v := 0) dX12_init_654 (by decide) ?_
  refine x_bipush (v := 110) dX12_init_655 (by decide) ?_
  obtain ⟨n308, c307, H⟩ := ka_o H
  obtain ⟨c309, H⟩ := chk_o H
  refine x_cast dX12_init_657 c307 (inb_in.mp c309) ?_
  refine x_dup dX12_init_658 rfl ?_
  refine x_iconst (v := 1) dX12_init_659 (by decide) ?_
  refine x_bipush (v := 111) dX12_init_660 (by decide) ?_
  obtain ⟨c310, H⟩ := chk_o H
  refine x_cast dX12_init_662 c307 (inb_in.mp c310) ?_
  refine x_dup dX12_init_663 rfl ?_
  refine x_iconst (v := 2) dX12_init_664 (by decide) ?_
  refine x_bipush (v := 116) dX12_init_665 (by decide) ?_
  obtain ⟨c311, H⟩ := chk_o H
  refine x_cast dX12_init_667 c307 (inb_in.mp c311) ?_
  obtain ⟨c312, H⟩ := ko_o H
  refine x_putR fl_X12_84 dX12_init_668 c312 (fun _ => rfl) rfl ?_
  exact t_X12_init_671 hd H
def f_X12_init_627 (x0 : Nat) (h : aH) : Option (Unit × aH) :=
  nm (hN h) fun (a314 : Nat) =>
  nm (nw h (.inr (.char, 3)) 3) fun (h313 : aH) =>
  ka h313 a314 .char fun n316 =>
  chk (inb 0 n316 = true) <|
  chk (inb 1 n316 = true) <|
  chk (inb 2 n316 = true) <|
  ko h313 x0 11 <|
  f_X12_init_649 x0 (sR (sI (sI (sI h313 a314 (0 : Int32).toNatClampNeg ((97 : Int32).toUInt32.toUInt16.toUInt32.toInt32)) a314 (1 : Int32).toNatClampNeg ((110 : Int32).toUInt32.toUInt16.toUInt32.toInt32)) a314 (2 : Int32).toNatClampNeg ((100 : Int32).toUInt32.toUInt16.toUInt32.toInt32)) x0 31 (some a314))
set_option maxRecDepth 100000 in
set_option maxHeartbeats 4000000 in
theorem t_X12_init_627 {Γ : gS} {d : Nat} (hd : 1 ≤ d) {x0 : Nat} {h : aH} {r : Unit} {h' : aH} (H : f_X12_init_627 x0 h = some (r, h')) : Ex Γ gX12_init d 627 [(0, .ref x0)] [] h none h' := by
  unfold f_X12_init_627 at H
  obtain ⟨d, rfl⟩ : ∃ e, d = e + 1 := ⟨d - 1, by omega⟩
  refine x_aload_n dX12_init_627 rfl 0 rfl ?_
  refine x_iconst (v := 3) dX12_init_628 (by decide) ?_
  obtain ⟨a314, ea314, H⟩ := nm_o H
  obtain ⟨h313, eh313, H⟩ := nm_o H
  refine x_newa (t := .char) (N := 3) dX12_init_629 rfl (by decide) rfl ac_char (by decide) (by decide) (by decide) ?_
  rw [ea314]
  refine Ex.ren eh313 ?_
  refine x_dup dX12_init_631 rfl ?_
  refine x_iconst (v := 0) dX12_init_632 (by decide) ?_
  refine x_bipush (v := 97) dX12_init_633 (by decide) ?_
  obtain ⟨n316, c315, H⟩ := ka_o H
  obtain ⟨c317, H⟩ := chk_o H
  refine x_cast dX12_init_635 c315 (inb_in.mp c317) ?_
  refine x_dup dX12_init_636 rfl ?_
  refine x_iconst (v := 1) dX12_init_637 (by decide) ?_
  refine x_bipush (v := 110) dX12_init_638 (by decide) ?_
  obtain ⟨c318, H⟩ := chk_o H
  refine x_cast dX12_init_640 c315 (inb_in.mp c318) ?_
  refine x_dup dX12_init_641 rfl ?_
  refine x_iconst (v := 2) dX12_init_642 (by decide) ?_
  refine x_bipush (v := 100) dX12_init_643 (by decide) ?_
  obtain ⟨c319, H⟩ := chk_o H
  refine x_cast dX12_init_645 c315 (inb_in.mp c319) ?_
  obtain ⟨c320, H⟩ := ko_o H
  refine x_putR fl_X12_81 dX12_init_646 c320 (fun _ => rfl) rfl ?_
  exact t_X12_init_649 hd H
def f_X12_init_610 (x0 : Nat) (h : aH) : Option (Unit × aH) :=
  nm (hN h) fun (a322 : Nat) =>
  nm (nw h (.inr (.char, 2)) 2) fun (h321 : aH) =>
  ka h321 a322 .char fun n324 =>
  chk (inb 0 n324 = true) <|
  chk (inb 1 n324 = true) <|
  ko h321 x0 11 <|
  f_X12_init_627 x0 (sR (sI (sI h321 a322 (0 : Int32).toNatClampNeg ((111 : Int32).toUInt32.toUInt16.toUInt32.toInt32)) a322 (1 : Int32).toNatClampNeg ((114 : Int32).toUInt32.toUInt16.toUInt32.toInt32)) x0 30 (some a322))
set_option maxRecDepth 100000 in
set_option maxHeartbeats 4000000 in
theorem t_X12_init_610 {Γ : gS} {d : Nat} (hd : 1 ≤ d) {x0 : Nat} {h : aH} {r : Unit} {h' : aH} (H : f_X12_init_610 x0 h = some (r, h')) : Ex Γ gX12_init d 610 [(0, .ref x0)] [] h none h' := by
  unfold f_X12_init_610 at H
  obtain ⟨d, rfl⟩ : ∃ e, d = e + 1 := ⟨d - 1, by omega⟩
  refine x_aload_n dX12_init_610 rfl 0 rfl ?_
  refine x_iconst (v := 2) dX12_init_611 (by decide) ?_
  obtain ⟨a322, ea322, H⟩ := nm_o H
  obtain ⟨h321, eh321, H⟩ := nm_o H
  refine x_newa (t := .char) (N := 2) dX12_init_612 rfl (by decide) rfl ac_char (by decide) (by decide) (by decide) ?_
  rw [ea322]
  refine Ex.ren eh321 ?_
  refine x_dup dX12_init_614 rfl ?_
  refine x_iconst (v := 0) dX12_init_615 (by decide) ?_
  refine x_bipush (v := 111) dX12_init_616 (by decide) ?_
  obtain ⟨n324, c323, H⟩ := ka_o H
  obtain ⟨c325, H⟩ := chk_o H
  refine x_cast dX12_init_618 c323 (inb_in.mp c325) ?_
  refine x_dup dX12_init_619 rfl ?_
  refine x_iconst (v := 1) dX12_init_620 (by decide) ?_
  refine x_bipush (v := 114) dX12_init_621 (by decide) ?_
  obtain ⟨c326, H⟩ := chk_o H
  refine x_cast dX12_init_623 c323 (inb_in.mp c326) ?_
  obtain ⟨c327, H⟩ := ko_o H
  refine x_putR fl_X12_78 dX12_init_624 c327 (fun _ => rfl) rfl ?_
  exact t_X12_init_627 hd H
def f_X12_init_583 (x0 : Nat) (h : aH) : Option (Unit × aH) :=
  nm (hN h) fun (a329 : Nat) =>
  nm (nw h (.inr (.char, 4)) 4) fun (h328 : aH) =>
  ka h328 a329 .char fun n331 =>
  chk (inb 0 n331 = true) <|
  chk (inb 1 n331 = true) <|
  chk (inb 2 n331 = true) <|
  chk (inb 3 n331 = true) <|
  ko h328 x0 11 <|
  f_X12_init_610 x0 (sR (sI (sI (sI (sI h328 a329 (0 : Int32).toNatClampNeg ((102 : Int32).toUInt32.toUInt16.toUInt32.toInt32)) a329 (1 : Int32).toNatClampNeg ((105 : Int32).toUInt32.toUInt16.toUInt32.toInt32)) a329 (2 : Int32).toNatClampNeg ((116 : Int32).toUInt32.toUInt16.toUInt32.toInt32)) a329 (3 : Int32).toNatClampNeg ((115 : Int32).toUInt32.toUInt16.toUInt32.toInt32)) x0 29 (some a329))
set_option maxRecDepth 100000 in
set_option maxHeartbeats 4000000 in
theorem t_X12_init_583 {Γ : gS} {d : Nat} (hd : 1 ≤ d) {x0 : Nat} {h : aH} {r : Unit} {h' : aH} (H : f_X12_init_583 x0 h = some (r, h')) : Ex Γ gX12_init d 583 [(0, .ref x0)] [] h none h' := by
  unfold f_X12_init_583 at H
  obtain ⟨d, rfl⟩ : ∃ e, d = e + 1 := ⟨d - 1, by omega⟩
  refine x_aload_n dX12_init_583 rfl 0 rfl ?_
  refine x_iconst (v := 4) dX12_init_584 (by decide) ?_
  obtain ⟨a329, ea329, H⟩ := nm_o H
  obtain ⟨h328, eh328, H⟩ := nm_o H
  refine x_newa (t := .char) (N := 4) dX12_init_585 rfl (by decide) rfl ac_char (by decide) (by decide) (by decide) ?_
  rw [ea329]
  refine Ex.ren eh328 ?_
  refine x_dup dX12_init_587 rfl ?_
  refine x_iconst (v := 0) dX12_init_588 (by decide) ?_
  refine x_bipush (v := 102) dX12_init_589 (by decide) ?_
  obtain ⟨n331, c330, H⟩ := ka_o H
  obtain ⟨c332, H⟩ := chk_o H
  refine x_cast dX12_init_591 c330 (inb_in.mp c332) ?_
  refine x_dup dX12_init_592 rfl ?_
  refine x_iconst (v := 1) dX12_init_593 (by decide) ?_
  refine x_bipush (v := 105) dX12_init_594 (by decide) ?_
  obtain ⟨c333, H⟩ := chk_o H
  refine x_cast dX12_init_596 c330 (inb_in.mp c333) ?_
  refine x_dup dX12_init_597 rfl ?_
  refine x_iconst (v := 2) dX12_init_598 (by decide) ?_
  refine x_bipush (v := 116) dX12_init_599 (by decide) ?_
  obtain ⟨c334, H⟩ := chk_o H
  refine x_cast dX12_init_601 c330 (inb_in.mp c334) ?_
  refine x_dup dX12_init_602 rfl ?_
  refine x_iconst (v := 3) dX12_init_603 (by decide) ?_
  refine x_bipush (v := 115) dX12_init_604 (by decide) ?_
  obtain ⟨c335, H⟩ := chk_o H
  refine x_cast dX12_init_606 c330 (inb_in.mp c335) ?_
  obtain ⟨c336, H⟩ := ko_o H
  refine x_putR fl_X12_75 dX12_init_607 c336 (fun _ => rfl) rfl ?_
  exact t_X12_init_610 hd H
def f_X12_init_556 (x0 : Nat) (h : aH) : Option (Unit × aH) :=
  nm (hN h) fun (a338 : Nat) =>
  nm (nw h (.inr (.char, 4)) 4) fun (h337 : aH) =>
  ka h337 a338 .char fun n340 =>
  chk (inb 0 n340 = true) <|
  chk (inb 1 n340 = true) <|
  chk (inb 2 n340 = true) <|
  chk (inb 3 n340 = true) <|
  ko h337 x0 11 <|
  f_X12_init_583 x0 (sR (sI (sI (sI (sI h337 a338 (0 : Int32).toNatClampNeg ((102 : Int32).toUInt32.toUInt16.toUInt32.toInt32)) a338 (1 : Int32).toNatClampNeg ((114 : Int32).toUInt32.toUInt16.toUInt32.toInt32)) a338 (2 : Int32).toNatClampNeg ((111 : Int32).toUInt32.toUInt16.toUInt32.toInt32)) a338 (3 : Int32).toNatClampNeg ((109 : Int32).toUInt32.toUInt16.toUInt32.toInt32)) x0 28 (some a338))
set_option maxRecDepth 100000 in
set_option maxHeartbeats 4000000 in
theorem t_X12_init_556 {Γ : gS} {d : Nat} (hd : 1 ≤ d) {x0 : Nat} {h : aH} {r : Unit} {h' : aH} (H : f_X12_init_556 x0 h = some (r, h')) : Ex Γ gX12_init d 556 [(0, .ref x0)] [] h none h' := by
  unfold f_X12_init_556 at H
  obtain ⟨d, rfl⟩ : ∃ e, d = e + 1 := ⟨d - 1, by omega⟩
  refine x_aload_n dX12_init_556 rfl 0 rfl ?_
  refine x_iconst (v := 4) dX12_init_557 (by decide) ?_
  obtain ⟨a338, ea338, H⟩ := nm_o H
  obtain ⟨h337, eh337, H⟩ := nm_o H
  refine x_newa (t := .char) (N := 4) dX12_init_558 rfl (by decide) rfl ac_char (by decide) (by decide) (by decide) ?_
  rw [ea338]
  refine Ex.ren eh337 ?_
  refine x_dup dX12_init_560 rfl ?_
  refine x_iconst (v := 0) dX12_init_561 (by decide) ?_
  refine x_bipush (v := 102) dX12_init_562 (by decide) ?_
  obtain ⟨n340, c339, H⟩ := ka_o H
  obtain ⟨c341, H⟩ := chk_o H
  refine x_cast dX12_init_564 c339 (inb_in.mp c341) ?_
  refine x_dup dX12_init_565 rfl ?_
  refine x_iconst (v := 1) dX12_init_566 (by decide) ?_
  refine x_bipush (v := 114) dX12_init_567 (by decide) ?_
  obtain ⟨c342, H⟩ := chk_o H
  refine x_cast dX12_init_569 c339 (inb_in.mp c342) ?_
  refine x_dup dX12_init_570 rfl ?_
  refine x_iconst (v := 2) dX12_init_571 (by decide) ?_
  refine x_bipush (v := 111) dX12_init_572 (by decide) ?_
  obtain ⟨c343, H⟩ := chk_o H
  refine x_cast dX12_init_574 c339 (inb_in.mp c343) ?_
  refine x_dup dX12_init_575 rfl ?_
  refine x_iconst (v := 3) dX12_init_576 (by decide) ?_
  refine x_bipush (v := 109) dX12_init_577 (by decide) ?_
  obtain ⟨c344, H⟩ := chk_o H
  refine x_cast dX12_init_579 c339 (inb_in.mp c344) ?_
  obtain ⟨c345, H⟩ := ko_o H
  refine x_putR fl_X12_72 dX12_init_580 c345 (fun _ => rfl) rfl ?_
  exact t_X12_init_583 hd H
def f_X12_init_524 (x0 : Nat) (h : aH) : Option (Unit × aH) :=
  nm (hN h) fun (a347 : Nat) =>
  nm (nw h (.inr (.char, 5)) 5) fun (h346 : aH) =>
  ka h346 a347 .char fun n349 =>
  chk (inb 0 n349 = true) <|
  chk (inb 1 n349 = true) <|
  chk (inb 2 n349 = true) <|
  chk (inb 3 n349 = true) <|
  chk (inb 4 n349 = true) <|
  ko h346 x0 11 <|
  f_X12_init_556 x0 (sR (sI (sI (sI (sI (sI h346 a347 (0 : Int32).toNatClampNeg ((118 : Int32).toUInt32.toUInt16.toUInt32.toInt32)) a347 (1 : Int32).toNatClampNeg ((97 : Int32).toUInt32.toUInt16.toUInt32.toInt32)) a347 (2 : Int32).toNatClampNeg ((108 : Int32).toUInt32.toUInt16.toUInt32.toInt32)) a347 (3 : Int32).toNatClampNeg ((105 : Int32).toUInt32.toUInt16.toUInt32.toInt32)) a347 (4 : Int32).toNatClampNeg ((100 : Int32).toUInt32.toUInt16.toUInt32.toInt32)) x0 27 (some a347))
set_option maxRecDepth 100000 in
set_option maxHeartbeats 4000000 in
theorem t_X12_init_524 {Γ : gS} {d : Nat} (hd : 1 ≤ d) {x0 : Nat} {h : aH} {r : Unit} {h' : aH} (H : f_X12_init_524 x0 h = some (r, h')) : Ex Γ gX12_init d 524 [(0, .ref x0)] [] h none h' := by
  unfold f_X12_init_524 at H
  obtain ⟨d, rfl⟩ : ∃ e, d = e + 1 := ⟨d - 1, by omega⟩
  refine x_aload_n dX12_init_524 rfl 0 rfl ?_
  refine x_iconst (v := 5) dX12_init_525 (by decide) ?_
  obtain ⟨a347, ea347, H⟩ := nm_o H
  obtain ⟨h346, eh346, H⟩ := nm_o H
  refine x_newa (t := .char) (N := 5) dX12_init_526 rfl (by decide) rfl ac_char (by decide) (by decide) (by decide) ?_
  rw [ea347]
  refine Ex.ren eh346 ?_
  refine x_dup dX12_init_528 rfl ?_
  refine x_iconst (v := 0) dX12_init_529 (by decide) ?_
  refine x_bipush (v := 118) dX12_init_530 (by decide) ?_
  obtain ⟨n349, c348, H⟩ := ka_o H
  obtain ⟨c350, H⟩ := chk_o H
  refine x_cast dX12_init_532 c348 (inb_in.mp c350) ?_
  refine x_dup dX12_init_533 rfl ?_
  refine x_iconst (v := 1) dX12_init_534 (by decide) ?_
  refine x_bipush (v := 97) dX12_init_535 (by decide) ?_
  obtain ⟨c351, H⟩ := chk_o H
  refine x_cast dX12_init_537 c348 (inb_in.mp c351) ?_
  refine x_dup dX12_init_538 rfl ?_
  refine x_iconst (v := 2) dX12_init_539 (by decide) ?_
  refine x_bipush (v := 108) dX12_init_540 (by decide) ?_
  obtain ⟨c352, H⟩ := chk_o H
  refine x_cast dX12_init_542 c348 (inb_in.mp c352) ?_
  refine x_dup dX12_init_543 rfl ?_
  refine x_iconst (v := 3) dX12_init_544 (by decide) ?_
  refine x_bipush (v := 105) dX12_init_545 (by decide) ?_
  obtain ⟨c353, H⟩ := chk_o H
  refine x_cast dX12_init_547 c348 (inb_in.mp c353) ?_
  refine x_dup dX12_init_548 rfl ?_
  refine x_iconst (v := 4) dX12_init_549 (by decide) ?_
  refine x_bipush (v := 100) dX12_init_550 (by decide) ?_
  obtain ⟨c354, H⟩ := chk_o H
  refine x_cast dX12_init_552 c348 (inb_in.mp c354) ?_
  obtain ⟨c355, H⟩ := ko_o H
  refine x_putR fl_X12_69 dX12_init_553 c355 (fun _ => rfl) rfl ?_
  exact t_X12_init_556 hd H
def f_X12_init_502 (x0 : Nat) (h : aH) : Option (Unit × aH) :=
  nm (hN h) fun (a357 : Nat) =>
  nm (nw h (.inr (.char, 3)) 3) fun (h356 : aH) =>
  ka h356 a357 .char fun n359 =>
  chk (inb 0 n359 = true) <|
  chk (inb 1 n359 = true) <|
  chk (inb 2 n359 = true) <|
  ko h356 x0 11 <|
  f_X12_init_524 x0 (sR (sI (sI (sI h356 a357 (0 : Int32).toNatClampNeg ((101 : Int32).toUInt32.toUInt16.toUInt32.toInt32)) a357 (1 : Int32).toNatClampNeg ((120 : Int32).toUInt32.toUInt16.toUInt32.toInt32)) a357 (2 : Int32).toNatClampNeg ((112 : Int32).toUInt32.toUInt16.toUInt32.toInt32)) x0 26 (some a357))
set_option maxRecDepth 100000 in
set_option maxHeartbeats 4000000 in
theorem t_X12_init_502 {Γ : gS} {d : Nat} (hd : 1 ≤ d) {x0 : Nat} {h : aH} {r : Unit} {h' : aH} (H : f_X12_init_502 x0 h = some (r, h')) : Ex Γ gX12_init d 502 [(0, .ref x0)] [] h none h' := by
  unfold f_X12_init_502 at H
  obtain ⟨d, rfl⟩ : ∃ e, d = e + 1 := ⟨d - 1, by omega⟩
  refine x_aload_n dX12_init_502 rfl 0 rfl ?_
  refine x_iconst (v := 3) dX12_init_503 (by decide) ?_
  obtain ⟨a357, ea357, H⟩ := nm_o H
  obtain ⟨h356, eh356, H⟩ := nm_o H
  refine x_newa (t := .char) (N := 3) dX12_init_504 rfl (by decide) rfl ac_char (by decide) (by decide) (by decide) ?_
  rw [ea357]
  refine Ex.ren eh356 ?_
  refine x_dup dX12_init_506 rfl ?_
  refine x_iconst (v := 0) dX12_init_507 (by decide) ?_
  refine x_bipush (v := 101) dX12_init_508 (by decide) ?_
  obtain ⟨n359, c358, H⟩ := ka_o H
  obtain ⟨c360, H⟩ := chk_o H
  refine x_cast dX12_init_510 c358 (inb_in.mp c360) ?_
  refine x_dup dX12_init_511 rfl ?_
  refine x_iconst (v := 1) dX12_init_512 (by decide) ?_
  refine x_bipush (v := 120) dX12_init_513 (by decide) ?_
  obtain ⟨c361, H⟩ := chk_o H
  refine x_cast dX12_init_515 c358 (inb_in.mp c361) ?_
  refine x_dup dX12_init_516 rfl ?_
  refine x_iconst (v := 2) dX12_init_517 (by decide) ?_
  refine x_bipush (v := 112) dX12_init_518 (by decide) ?_
  obtain ⟨c362, H⟩ := chk_o H
  refine x_cast dX12_init_520 c358 (inb_in.mp c362) ?_
  obtain ⟨c363, H⟩ := ko_o H
  refine x_putR fl_X12_66 dX12_init_521 c363 (fun _ => rfl) rfl ?_
  exact t_X12_init_524 hd H
def f_X12_init_464 (x0 : Nat) (h : aH) : Option (Unit × aH) :=
  nm (hN h) fun (a365 : Nat) =>
  nm (nw h (.inr (.char, 6)) 6) fun (h364 : aH) =>
  ka h364 a365 .char fun n367 =>
  chk (inb 0 n367 = true) <|
  chk (inb 1 n367 = true) <|
  chk (inb 2 n367 = true) <|
  chk (inb 3 n367 = true) <|
  chk (inb 4 n367 = true) <|
  chk (inb 5 n367 = true) <|
  ko h364 x0 11 <|
  f_X12_init_502 x0 (sR (sI (sI (sI (sI (sI (sI h364 a365 (0 : Int32).toNatClampNeg ((110 : Int32).toUInt32.toUInt16.toUInt32.toInt32)) a365 (1 : Int32).toNatClampNeg ((117 : Int32).toUInt32.toUInt16.toUInt32.toInt32)) a365 (2 : Int32).toNatClampNeg ((109 : Int32).toUInt32.toUInt16.toUInt32.toInt32)) a365 (3 : Int32).toNatClampNeg ((98 : Int32).toUInt32.toUInt16.toUInt32.toInt32)) a365 (4 : Int32).toNatClampNeg ((101 : Int32).toUInt32.toUInt16.toUInt32.toInt32)) a365 (5 : Int32).toNatClampNeg ((114 : Int32).toUInt32.toUInt16.toUInt32.toInt32)) x0 25 (some a365))
set_option maxRecDepth 100000 in
set_option maxHeartbeats 4000000 in
theorem t_X12_init_464 {Γ : gS} {d : Nat} (hd : 1 ≤ d) {x0 : Nat} {h : aH} {r : Unit} {h' : aH} (H : f_X12_init_464 x0 h = some (r, h')) : Ex Γ gX12_init d 464 [(0, .ref x0)] [] h none h' := by
  unfold f_X12_init_464 at H
  obtain ⟨d, rfl⟩ : ∃ e, d = e + 1 := ⟨d - 1, by omega⟩
  refine x_aload_n dX12_init_464 rfl 0 rfl ?_
  refine x_bipush (v := 6) dX12_init_465 (by decide) ?_
  obtain ⟨a365, ea365, H⟩ := nm_o H
  obtain ⟨h364, eh364, H⟩ := nm_o H
  refine x_newa (t := .char) (N := 6) dX12_init_467 rfl (by decide) rfl ac_char (by decide) (by decide) (by decide) ?_
  rw [ea365]
  refine Ex.ren eh364 ?_
  refine x_dup dX12_init_469 rfl ?_
  refine x_iconst (v := 0) dX12_init_470 (by decide) ?_
  refine x_bipush (v := 110) dX12_init_471 (by decide) ?_
  obtain ⟨n367, c366, H⟩ := ka_o H
  obtain ⟨c368, H⟩ := chk_o H
  refine x_cast dX12_init_473 c366 (inb_in.mp c368) ?_
  refine x_dup dX12_init_474 rfl ?_
  refine x_iconst (v := 1) dX12_init_475 (by decide) ?_
  refine x_bipush (v := 117) dX12_init_476 (by decide) ?_
  obtain ⟨c369, H⟩ := chk_o H
  refine x_cast dX12_init_478 c366 (inb_in.mp c369) ?_
  refine x_dup dX12_init_479 rfl ?_
  refine x_iconst (v := 2) dX12_init_480 (by decide) ?_
  refine x_bipush (v := 109) dX12_init_481 (by decide) ?_
  obtain ⟨c370, H⟩ := chk_o H
  refine x_cast dX12_init_483 c366 (inb_in.mp c370) ?_
  refine x_dup dX12_init_484 rfl ?_
  refine x_iconst (v := 3) dX12_init_485 (by decide) ?_
  refine x_bipush (v := 98) dX12_init_486 (by decide) ?_
  obtain ⟨c371, H⟩ := chk_o H
  refine x_cast dX12_init_488 c366 (inb_in.mp c371) ?_
  refine x_dup dX12_init_489 rfl ?_
  refine x_iconst (v := 4) dX12_init_490 (by decide) ?_
  refine x_bipush (v := 101) dX12_init_491 (by decide) ?_
  obtain ⟨c372, H⟩ := chk_o H
  refine x_cast dX12_init_493 c366 (inb_in.mp c372) ?_
  refine x_dup dX12_init_494 rfl ?_
  refine x_iconst (v := 5) dX12_init_495 (by decide) ?_
  refine x_bipush (v := 114) dX12_init_496 (by decide) ?_
  obtain ⟨c373, H⟩ := chk_o H
  refine x_cast dX12_init_498 c366 (inb_in.mp c373) ?_
  obtain ⟨c374, H⟩ := ko_o H
  refine x_putR fl_X12_63 dX12_init_499 c374 (fun _ => rfl) rfl ?_
  exact t_X12_init_502 hd H
def f_X12_init_432 (x0 : Nat) (h : aH) : Option (Unit × aH) :=
  nm (hN h) fun (a376 : Nat) =>
  nm (nw h (.inr (.char, 5)) 5) fun (h375 : aH) =>
  ka h375 a376 .char fun n378 =>
  chk (inb 0 n378 = true) <|
  chk (inb 1 n378 = true) <|
  chk (inb 2 n378 = true) <|
  chk (inb 3 n378 = true) <|
  chk (inb 4 n378 = true) <|
  ko h375 x0 11 <|
  f_X12_init_464 x0 (sR (sI (sI (sI (sI (sI h375 a376 (0 : Int32).toNatClampNeg ((112 : Int32).toUInt32.toUInt16.toUInt32.toInt32)) a376 (1 : Int32).toNatClampNeg ((101 : Int32).toUInt32.toUInt16.toUInt32.toInt32)) a376 (2 : Int32).toNatClampNeg ((114 : Int32).toUInt32.toUInt16.toUInt32.toInt32)) a376 (3 : Int32).toNatClampNeg ((109 : Int32).toUInt32.toUInt16.toUInt32.toInt32)) a376 (4 : Int32).toNatClampNeg ((115 : Int32).toUInt32.toUInt16.toUInt32.toInt32)) x0 24 (some a376))
set_option maxRecDepth 100000 in
set_option maxHeartbeats 4000000 in
theorem t_X12_init_432 {Γ : gS} {d : Nat} (hd : 1 ≤ d) {x0 : Nat} {h : aH} {r : Unit} {h' : aH} (H : f_X12_init_432 x0 h = some (r, h')) : Ex Γ gX12_init d 432 [(0, .ref x0)] [] h none h' := by
  unfold f_X12_init_432 at H
  obtain ⟨d, rfl⟩ : ∃ e, d = e + 1 := ⟨d - 1, by omega⟩
  refine x_aload_n dX12_init_432 rfl 0 rfl ?_
  refine x_iconst (v := 5) dX12_init_433 (by decide) ?_
  obtain ⟨a376, ea376, H⟩ := nm_o H
  obtain ⟨h375, eh375, H⟩ := nm_o H
  refine x_newa (t := .char) (N := 5) dX12_init_434 rfl (by decide) rfl ac_char (by decide) (by decide) (by decide) ?_
  rw [ea376]
  refine Ex.ren eh375 ?_
  refine x_dup dX12_init_436 rfl ?_
  refine x_iconst (v := 0) dX12_init_437 (by decide) ?_
  refine x_bipush (v := 112) dX12_init_438 (by decide) ?_
  obtain ⟨n378, c377, H⟩ := ka_o H
  obtain ⟨c379, H⟩ := chk_o H
  refine x_cast dX12_init_440 c377 (inb_in.mp c379) ?_
  refine x_dup dX12_init_441 rfl ?_
  refine x_iconst (v := 1) dX12_init_442 (by decide) ?_
  refine x_bipush (v := 101) dX12_init_443 (by decide) ?_
  obtain ⟨c380, H⟩ := chk_o H
  refine x_cast dX12_init_445 c377 (inb_in.mp c380) ?_
  refine x_dup dX12_init_446 rfl ?_
  refine x_iconst (v := 2) dX12_init_447 (by decide) ?_
  refine x_bipush (v := 114) dX12_init_448 (by decide) ?_
  obtain ⟨c381, H⟩ := chk_o H
  refine x_cast dX12_init_450 c377 (inb_in.mp c381) ?_
  refine x_dup dX12_init_451 rfl ?_
  refine x_iconst (v := 3) dX12_init_452 (by decide) ?_
  refine x_bipush (v := 109) dX12_init_453 (by decide) ?_
  obtain ⟨c382, H⟩ := chk_o H
  refine x_cast dX12_init_455 c377 (inb_in.mp c382) ?_
  refine x_dup dX12_init_456 rfl ?_
  refine x_iconst (v := 4) dX12_init_457 (by decide) ?_
  refine x_bipush (v := 115) dX12_init_458 (by decide) ?_
  obtain ⟨c383, H⟩ := chk_o H
  refine x_cast dX12_init_460 c377 (inb_in.mp c383) ?_
  obtain ⟨c384, H⟩ := ko_o H
  refine x_putR fl_X12_60 dX12_init_461 c384 (fun _ => rfl) rfl ?_
  exact t_X12_init_464 hd H
def f_X12_init_394 (x0 : Nat) (h : aH) : Option (Unit × aH) :=
  nm (hN h) fun (a386 : Nat) =>
  nm (nw h (.inr (.char, 6)) 6) fun (h385 : aH) =>
  ka h385 a386 .char fun n388 =>
  chk (inb 0 n388 = true) <|
  chk (inb 1 n388 = true) <|
  chk (inb 2 n388 = true) <|
  chk (inb 3 n388 = true) <|
  chk (inb 4 n388 = true) <|
  chk (inb 5 n388 = true) <|
  ko h385 x0 11 <|
  f_X12_init_432 x0 (sR (sI (sI (sI (sI (sI (sI h385 a386 (0 : Int32).toNatClampNeg ((108 : Int32).toUInt32.toUInt16.toUInt32.toInt32)) a386 (1 : Int32).toNatClampNeg ((101 : Int32).toUInt32.toUInt16.toUInt32.toInt32)) a386 (2 : Int32).toNatClampNeg ((110 : Int32).toUInt32.toUInt16.toUInt32.toInt32)) a386 (3 : Int32).toNatClampNeg ((103 : Int32).toUInt32.toUInt16.toUInt32.toInt32)) a386 (4 : Int32).toNatClampNeg ((116 : Int32).toUInt32.toUInt16.toUInt32.toInt32)) a386 (5 : Int32).toNatClampNeg ((104 : Int32).toUInt32.toUInt16.toUInt32.toInt32)) x0 23 (some a386))
set_option maxRecDepth 100000 in
set_option maxHeartbeats 4000000 in
theorem t_X12_init_394 {Γ : gS} {d : Nat} (hd : 1 ≤ d) {x0 : Nat} {h : aH} {r : Unit} {h' : aH} (H : f_X12_init_394 x0 h = some (r, h')) : Ex Γ gX12_init d 394 [(0, .ref x0)] [] h none h' := by
  unfold f_X12_init_394 at H
  obtain ⟨d, rfl⟩ : ∃ e, d = e + 1 := ⟨d - 1, by omega⟩
  refine x_aload_n dX12_init_394 rfl 0 rfl ?_
  refine x_bipush (v := 6) dX12_init_395 (by decide) ?_
  obtain ⟨a386, ea386, H⟩ := nm_o H
  obtain ⟨h385, eh385, H⟩ := nm_o H
  refine x_newa (t := .char) (N := 6) dX12_init_397 rfl (by decide) rfl ac_char (by decide) (by decide) (by decide) ?_
  rw [ea386]
  refine Ex.ren eh385 ?_
  refine x_dup dX12_init_399 rfl ?_
  refine x_iconst (v := 0) dX12_init_400 (by decide) ?_
  refine x_bipush (v := 108) dX12_init_401 (by decide) ?_
  obtain ⟨n388, c387, H⟩ := ka_o H
  obtain ⟨c389, H⟩ := chk_o H
  refine x_cast dX12_init_403 c387 (inb_in.mp c389) ?_
  refine x_dup dX12_init_404 rfl ?_
  refine x_iconst (v := 1) dX12_init_405 (by decide) ?_
  refine x_bipush (v := 101) dX12_init_406 (by decide) ?_
  obtain ⟨c390, H⟩ := chk_o H
  refine x_cast dX12_init_408 c387 (inb_in.mp c390) ?_
  refine x_dup dX12_init_409 rfl ?_
  refine x_iconst (v := 2) dX12_init_410 (by decide) ?_
  refine x_bipush (v := 110) dX12_init_411 (by decide) ?_
  obtain ⟨c391, H⟩ := chk_o H
  refine x_cast dX12_init_413 c387 (inb_in.mp c391) ?_
  refine x_dup dX12_init_414 rfl ?_
  refine x_iconst (v := 3) dX12_init_415 (by decide) ?_
  refine x_bipush (v := 103) dX12_init_416 (by decide) ?_
  obtain ⟨c392, H⟩ := chk_o H
  refine x_cast dX12_init_418 c387 (inb_in.mp c392) ?_
  refine x_dup dX12_init_419 rfl ?_
  refine x_iconst (v := 4) dX12_init_420 (by decide) ?_
  refine x_bipush (v := 116) dX12_init_421 (by decide) ?_
  obtain ⟨c393, H⟩ := chk_o H
  refine x_cast dX12_init_423 c387 (inb_in.mp c393) ?_
  refine x_dup dX12_init_424 rfl ?_
  refine x_iconst (v := 5) dX12_init_425 (by decide) ?_
  refine x_bipush (v := 104) dX12_init_426 (by decide) ?_
  obtain ⟨c394, H⟩ := chk_o H
  refine x_cast dX12_init_428 c387 (inb_in.mp c394) ?_
  obtain ⟨c395, H⟩ := ko_o H
  refine x_putR fl_X12_57 dX12_init_429 c395 (fun _ => rfl) rfl ?_
  exact t_X12_init_432 hd H
def f_X12_init_367 (x0 : Nat) (h : aH) : Option (Unit × aH) :=
  nm (hN h) fun (a397 : Nat) =>
  nm (nw h (.inr (.char, 4)) 4) fun (h396 : aH) =>
  ka h396 a397 .char fun n399 =>
  chk (inb 0 n399 = true) <|
  chk (inb 1 n399 = true) <|
  chk (inb 2 n399 = true) <|
  chk (inb 3 n399 = true) <|
  ko h396 x0 11 <|
  f_X12_init_394 x0 (sR (sI (sI (sI (sI h396 a397 (0 : Int32).toNatClampNeg ((98 : Int32).toUInt32.toUInt16.toUInt32.toInt32)) a397 (1 : Int32).toNatClampNeg ((97 : Int32).toUInt32.toUInt16.toUInt32.toInt32)) a397 (2 : Int32).toNatClampNeg ((115 : Int32).toUInt32.toUInt16.toUInt32.toInt32)) a397 (3 : Int32).toNatClampNeg ((101 : Int32).toUInt32.toUInt16.toUInt32.toInt32)) x0 22 (some a397))
set_option maxRecDepth 100000 in
set_option maxHeartbeats 4000000 in
theorem t_X12_init_367 {Γ : gS} {d : Nat} (hd : 1 ≤ d) {x0 : Nat} {h : aH} {r : Unit} {h' : aH} (H : f_X12_init_367 x0 h = some (r, h')) : Ex Γ gX12_init d 367 [(0, .ref x0)] [] h none h' := by
  unfold f_X12_init_367 at H
  obtain ⟨d, rfl⟩ : ∃ e, d = e + 1 := ⟨d - 1, by omega⟩
  refine x_aload_n dX12_init_367 rfl 0 rfl ?_
  refine x_iconst (v := 4) dX12_init_368 (by decide) ?_
  obtain ⟨a397, ea397, H⟩ := nm_o H
  obtain ⟨h396, eh396, H⟩ := nm_o H
  refine x_newa (t := .char) (N := 4) dX12_init_369 rfl (by decide) rfl ac_char (by decide) (by decide) (by decide) ?_
  rw [ea397]
  refine Ex.ren eh396 ?_
  refine x_dup dX12_init_371 rfl ?_
  refine x_iconst (v := 0) dX12_init_372 (by decide) ?_
  refine x_bipush (v := 98) dX12_init_373 (by decide) ?_
  obtain ⟨n399, c398, H⟩ := ka_o H
  obtain ⟨c400, H⟩ := chk_o H
  refine x_cast dX12_init_375 c398 (inb_in.mp c400) ?_
  refine x_dup dX12_init_376 rfl ?_
  refine x_iconst (v := 1) dX12_init_377 (by decide) ?_
  refine x_bipush (v := 97) dX12_init_378 (by decide) ?_
  obtain ⟨c401, H⟩ := chk_o H
  refine x_cast dX12_init_380 c398 (inb_in.mp c401) ?_
  refine x_dup dX12_init_381 rfl ?_
  refine x_iconst (v := 2) dX12_init_382 (by decide) ?_
  refine x_bipush (v := 115) dX12_init_383 (by decide) ?_
  obtain ⟨c402, H⟩ := chk_o H
  refine x_cast dX12_init_385 c398 (inb_in.mp c402) ?_
  refine x_dup dX12_init_386 rfl ?_
  refine x_iconst (v := 3) dX12_init_387 (by decide) ?_
  refine x_bipush (v := 101) dX12_init_388 (by decide) ?_
  obtain ⟨c403, H⟩ := chk_o H
  refine x_cast dX12_init_390 c398 (inb_in.mp c403) ?_
  obtain ⟨c404, H⟩ := ko_o H
  refine x_putR fl_X12_54 dX12_init_391 c404 (fun _ => rfl) rfl ?_
  exact t_X12_init_394 hd H
def f_X12_init_350 (x0 : Nat) (h : aH) : Option (Unit × aH) :=
  nm (hN h) fun (a406 : Nat) =>
  nm (nw h (.inr (.char, 2)) 2) fun (h405 : aH) =>
  ka h405 a406 .char fun n408 =>
  chk (inb 0 n408 = true) <|
  chk (inb 1 n408 = true) <|
  ko h405 x0 11 <|
  f_X12_init_367 x0 (sR (sI (sI h405 a406 (0 : Int32).toNatClampNeg ((97 : Int32).toUInt32.toUInt16.toUInt32.toInt32)) a406 (1 : Int32).toNatClampNeg ((116 : Int32).toUInt32.toUInt16.toUInt32.toInt32)) x0 21 (some a406))
set_option maxRecDepth 100000 in
set_option maxHeartbeats 4000000 in
theorem t_X12_init_350 {Γ : gS} {d : Nat} (hd : 1 ≤ d) {x0 : Nat} {h : aH} {r : Unit} {h' : aH} (H : f_X12_init_350 x0 h = some (r, h')) : Ex Γ gX12_init d 350 [(0, .ref x0)] [] h none h' := by
  unfold f_X12_init_350 at H
  obtain ⟨d, rfl⟩ : ∃ e, d = e + 1 := ⟨d - 1, by omega⟩
  refine x_aload_n dX12_init_350 rfl 0 rfl ?_
  refine x_iconst (v := 2) dX12_init_351 (by decide) ?_
  obtain ⟨a406, ea406, H⟩ := nm_o H
  obtain ⟨h405, eh405, H⟩ := nm_o H
  refine x_newa (t := .char) (N := 2) dX12_init_352 rfl (by decide) rfl ac_char (by decide) (by decide) (by decide) ?_
  rw [ea406]
  refine Ex.ren eh405 ?_
  refine x_dup dX12_init_354 rfl ?_
  refine x_iconst (v := 0) dX12_init_355 (by decide) ?_
  refine x_bipush (v := 97) dX12_init_356 (by decide) ?_
  obtain ⟨n408, c407, H⟩ := ka_o H
  obtain ⟨c409, H⟩ := chk_o H
  refine x_cast dX12_init_358 c407 (inb_in.mp c409) ?_
  refine x_dup dX12_init_359 rfl ?_
  refine x_iconst (v := 1) dX12_init_360 (by decide) ?_
  refine x_bipush (v := 116) dX12_init_361 (by decide) ?_
  obtain ⟨c410, H⟩ := chk_o H
  refine x_cast dX12_init_363 c407 (inb_in.mp c410) ?_
  obtain ⟨c411, H⟩ := ko_o H
  refine x_putR fl_X12_51 dX12_init_364 c411 (fun _ => rfl) rfl ?_
  exact t_X12_init_367 hd H
def f_X12_init_323 (x0 : Nat) (h : aH) : Option (Unit × aH) :=
  nm (hN h) fun (a413 : Nat) =>
  nm (nw h (.inr (.char, 4)) 4) fun (h412 : aH) =>
  ka h412 a413 .char fun n415 =>
  chk (inb 0 n415 = true) <|
  chk (inb 1 n415 = true) <|
  chk (inb 2 n415 = true) <|
  chk (inb 3 n415 = true) <|
  ko h412 x0 11 <|
  f_X12_init_350 x0 (sR (sI (sI (sI (sI h412 a413 (0 : Int32).toNatClampNeg ((114 : Int32).toUInt32.toUInt16.toUInt32.toInt32)) a413 (1 : Int32).toNatClampNeg ((111 : Int32).toUInt32.toUInt16.toUInt32.toInt32)) a413 (2 : Int32).toNatClampNeg ((111 : Int32).toUInt32.toUInt16.toUInt32.toInt32)) a413 (3 : Int32).toNatClampNeg ((109 : Int32).toUInt32.toUInt16.toUInt32.toInt32)) x0 20 (some a413))
set_option maxRecDepth 100000 in
set_option maxHeartbeats 4000000 in
theorem t_X12_init_323 {Γ : gS} {d : Nat} (hd : 1 ≤ d) {x0 : Nat} {h : aH} {r : Unit} {h' : aH} (H : f_X12_init_323 x0 h = some (r, h')) : Ex Γ gX12_init d 323 [(0, .ref x0)] [] h none h' := by
  unfold f_X12_init_323 at H
  obtain ⟨d, rfl⟩ : ∃ e, d = e + 1 := ⟨d - 1, by omega⟩
  refine x_aload_n dX12_init_323 rfl 0 rfl ?_
  refine x_iconst (v := 4) dX12_init_324 (by decide) ?_
  obtain ⟨a413, ea413, H⟩ := nm_o H
  obtain ⟨h412, eh412, H⟩ := nm_o H
  refine x_newa (t := .char) (N := 4) dX12_init_325 rfl (by decide) rfl ac_char (by decide) (by decide) (by decide) ?_
  rw [ea413]
  refine Ex.ren eh412 ?_
  refine x_dup dX12_init_327 rfl ?_
  refine x_iconst (v := 0) dX12_init_328 (by decide) ?_
  refine x_bipush (v := 114) dX12_init_329 (by decide) ?_
  obtain ⟨n415, c414, H⟩ := ka_o H
  obtain ⟨c416, H⟩ := chk_o H
  refine x_cast dX12_init_331 c414 (inb_in.mp c416) ?_
  refine x_dup dX12_init_332 rfl ?_
  refine x_iconst (v := 1) dX12_init_333 (by decide) ?_
  refine x_bipush (v := 111) dX12_init_334 (by decide) ?_
  obtain ⟨c417, H⟩ := chk_o H
  refine x_cast dX12_init_336 c414 (inb_in.mp c417) ?_
  refine x_dup dX12_init_337 rfl ?_
  refine x_iconst (v := 2) dX12_init_338 (by decide) ?_
  refine x_bipush (v := 111) dX12_init_339 (by decide) ?_
  obtain ⟨c418, H⟩ := chk_o H
  refine x_cast dX12_init_341 c414 (inb_in.mp c418) ?_
  refine x_dup dX12_init_342 rfl ?_
  refine x_iconst (v := 3) dX12_init_343 (by decide) ?_
  refine x_bipush (v := 109) dX12_init_344 (by decide) ?_
  obtain ⟨c419, H⟩ := chk_o H
  refine x_cast dX12_init_346 c414 (inb_in.mp c419) ?_
  obtain ⟨c420, H⟩ := ko_o H
  refine x_putR fl_X12_48 dX12_init_347 c420 (fun _ => rfl) rfl ?_
  exact t_X12_init_350 hd H
def f_X12_init_291 (x0 : Nat) (h : aH) : Option (Unit × aH) :=
  nm (hN h) fun (a422 : Nat) =>
  nm (nw h (.inr (.char, 5)) 5) fun (h421 : aH) =>
  ka h421 a422 .char fun n424 =>
  chk (inb 0 n424 = true) <|
  chk (inb 1 n424 = true) <|
  chk (inb 2 n424 = true) <|
  chk (inb 3 n424 = true) <|
  chk (inb 4 n424 = true) <|
  ko h421 x0 11 <|
  f_X12_init_323 x0 (sR (sI (sI (sI (sI (sI h421 a422 (0 : Int32).toNatClampNeg ((115 : Int32).toUInt32.toUInt16.toUInt32.toInt32)) a422 (1 : Int32).toNatClampNeg ((116 : Int32).toUInt32.toUInt16.toUInt32.toInt32)) a422 (2 : Int32).toNatClampNeg ((97 : Int32).toUInt32.toUInt16.toUInt32.toInt32)) a422 (3 : Int32).toNatClampNeg ((114 : Int32).toUInt32.toUInt16.toUInt32.toInt32)) a422 (4 : Int32).toNatClampNeg ((116 : Int32).toUInt32.toUInt16.toUInt32.toInt32)) x0 19 (some a422))
set_option maxRecDepth 100000 in
set_option maxHeartbeats 4000000 in
theorem t_X12_init_291 {Γ : gS} {d : Nat} (hd : 1 ≤ d) {x0 : Nat} {h : aH} {r : Unit} {h' : aH} (H : f_X12_init_291 x0 h = some (r, h')) : Ex Γ gX12_init d 291 [(0, .ref x0)] [] h none h' := by
  unfold f_X12_init_291 at H
  obtain ⟨d, rfl⟩ : ∃ e, d = e + 1 := ⟨d - 1, by omega⟩
  refine x_aload_n dX12_init_291 rfl 0 rfl ?_
  refine x_iconst (v := 5) dX12_init_292 (by decide) ?_
  obtain ⟨a422, ea422, H⟩ := nm_o H
  obtain ⟨h421, eh421, H⟩ := nm_o H
  refine x_newa (t := .char) (N := 5) dX12_init_293 rfl (by decide) rfl ac_char (by decide) (by decide) (by decide) ?_
  rw [ea422]
  refine Ex.ren eh421 ?_
  refine x_dup dX12_init_295 rfl ?_
  refine x_iconst (v := 0) dX12_init_296 (by decide) ?_
  refine x_bipush (v := 115) dX12_init_297 (by decide) ?_
  obtain ⟨n424, c423, H⟩ := ka_o H
  obtain ⟨c425, H⟩ := chk_o H
  refine x_cast dX12_init_299 c423 (inb_in.mp c425) ?_
  refine x_dup dX12_init_300 rfl ?_
  refine x_iconst (v := 1) dX12_init_301 (by decide) ?_
  refine x_bipush (v := 116) dX12_init_302 (by decide) ?_
  obtain ⟨c426, H⟩ := chk_o H
  refine x_cast dX12_init_304 c423 (inb_in.mp c426) ?_
  refine x_dup dX12_init_305 rfl ?_
  refine x_iconst (v := 2) dX12_init_306 (by decide) ?_
  refine x_bipush (v := 97) dX12_init_307 (by decide) ?_
  obtain ⟨c427, H⟩ := chk_o H
  refine x_cast dX12_init_309 c423 (inb_in.mp c427) ?_
  refine x_dup dX12_init_310 rfl ?_
  refine x_iconst (v := 3) dX12_init_311 (by decide) ?_
  refine x_bipush (v := 114) dX12_init_312 (by decide) ?_
  obtain ⟨c428, H⟩ := chk_o H
  refine x_cast dX12_init_314 c423 (inb_in.mp c428) ?_
  refine x_dup dX12_init_315 rfl ?_
  refine x_iconst (v := 4) dX12_init_316 (by decide) ?_
  refine x_bipush (v := 116) dX12_init_317 (by decide) ?_
  obtain ⟨c429, H⟩ := chk_o H
  refine x_cast dX12_init_319 c423 (inb_in.mp c429) ?_
  obtain ⟨c430, H⟩ := ko_o H
  refine x_putR fl_X12_45 dX12_init_320 c430 (fun _ => rfl) rfl ?_
  exact t_X12_init_323 hd H
def f_X12_init_264 (x0 : Nat) (h : aH) : Option (Unit × aH) :=
  nm (hN h) fun (a432 : Nat) =>
  nm (nw h (.inr (.char, 4)) 4) fun (h431 : aH) =>
  ka h431 a432 .char fun n434 =>
  chk (inb 0 n434 = true) <|
  chk (inb 1 n434 = true) <|
  chk (inb 2 n434 = true) <|
  chk (inb 3 n434 = true) <|
  ko h431 x0 11 <|
  f_X12_init_291 x0 (sR (sI (sI (sI (sI h431 a432 (0 : Int32).toNatClampNeg ((110 : Int32).toUInt32.toUInt16.toUInt32.toInt32)) a432 (1 : Int32).toNatClampNeg ((101 : Int32).toUInt32.toUInt16.toUInt32.toInt32)) a432 (2 : Int32).toNatClampNeg ((101 : Int32).toUInt32.toUInt16.toUInt32.toInt32)) a432 (3 : Int32).toNatClampNeg ((100 : Int32).toUInt32.toUInt16.toUInt32.toInt32)) x0 18 (some a432))
set_option maxRecDepth 100000 in
set_option maxHeartbeats 4000000 in
theorem t_X12_init_264 {Γ : gS} {d : Nat} (hd : 1 ≤ d) {x0 : Nat} {h : aH} {r : Unit} {h' : aH} (H : f_X12_init_264 x0 h = some (r, h')) : Ex Γ gX12_init d 264 [(0, .ref x0)] [] h none h' := by
  unfold f_X12_init_264 at H
  obtain ⟨d, rfl⟩ : ∃ e, d = e + 1 := ⟨d - 1, by omega⟩
  refine x_aload_n dX12_init_264 rfl 0 rfl ?_
  refine x_iconst (v := 4) dX12_init_265 (by decide) ?_
  obtain ⟨a432, ea432, H⟩ := nm_o H
  obtain ⟨h431, eh431, H⟩ := nm_o H
  refine x_newa (t := .char) (N := 4) dX12_init_266 rfl (by decide) rfl ac_char (by decide) (by decide) (by decide) ?_
  rw [ea432]
  refine Ex.ren eh431 ?_
  refine x_dup dX12_init_268 rfl ?_
  refine x_iconst (v := 0) dX12_init_269 (by decide) ?_
  refine x_bipush (v := 110) dX12_init_270 (by decide) ?_
  obtain ⟨n434, c433, H⟩ := ka_o H
  obtain ⟨c435, H⟩ := chk_o H
  refine x_cast dX12_init_272 c433 (inb_in.mp c435) ?_
  refine x_dup dX12_init_273 rfl ?_
  refine x_iconst (v := 1) dX12_init_274 (by decide) ?_
  refine x_bipush (v := 101) dX12_init_275 (by decide) ?_
  obtain ⟨c436, H⟩ := chk_o H
  refine x_cast dX12_init_277 c433 (inb_in.mp c436) ?_
  refine x_dup dX12_init_278 rfl ?_
  refine x_iconst (v := 2) dX12_init_279 (by decide) ?_
  refine x_bipush (v := 101) dX12_init_280 (by decide) ?_
  obtain ⟨c437, H⟩ := chk_o H
  refine x_cast dX12_init_282 c433 (inb_in.mp c437) ?_
  refine x_dup dX12_init_283 rfl ?_
  refine x_iconst (v := 3) dX12_init_284 (by decide) ?_
  refine x_bipush (v := 100) dX12_init_285 (by decide) ?_
  obtain ⟨c438, H⟩ := chk_o H
  refine x_cast dX12_init_287 c433 (inb_in.mp c438) ?_
  obtain ⟨c439, H⟩ := ko_o H
  refine x_putR fl_X12_42 dX12_init_288 c439 (fun _ => rfl) rfl ?_
  exact t_X12_init_291 hd H
def f_X12_init_232 (x0 : Nat) (h : aH) : Option (Unit × aH) :=
  nm (hN h) fun (a441 : Nat) =>
  nm (nw h (.inr (.char, 5)) 5) fun (h440 : aH) =>
  ka h440 a441 .char fun n443 =>
  chk (inb 0 n443 = true) <|
  chk (inb 1 n443 = true) <|
  chk (inb 2 n443 = true) <|
  chk (inb 3 n443 = true) <|
  chk (inb 4 n443 = true) <|
  ko h440 x0 11 <|
  f_X12_init_264 x0 (sR (sI (sI (sI (sI (sI h440 a441 (0 : Int32).toNatClampNeg ((116 : Int32).toUInt32.toUInt16.toUInt32.toInt32)) a441 (1 : Int32).toNatClampNeg ((114 : Int32).toUInt32.toUInt16.toUInt32.toInt32)) a441 (2 : Int32).toNatClampNeg ((97 : Int32).toUInt32.toUInt16.toUInt32.toInt32)) a441 (3 : Int32).toNatClampNeg ((112 : Int32).toUInt32.toUInt16.toUInt32.toInt32)) a441 (4 : Int32).toNatClampNeg ((115 : Int32).toUInt32.toUInt16.toUInt32.toInt32)) x0 17 (some a441))
set_option maxRecDepth 100000 in
set_option maxHeartbeats 4000000 in
theorem t_X12_init_232 {Γ : gS} {d : Nat} (hd : 1 ≤ d) {x0 : Nat} {h : aH} {r : Unit} {h' : aH} (H : f_X12_init_232 x0 h = some (r, h')) : Ex Γ gX12_init d 232 [(0, .ref x0)] [] h none h' := by
  unfold f_X12_init_232 at H
  obtain ⟨d, rfl⟩ : ∃ e, d = e + 1 := ⟨d - 1, by omega⟩
  refine x_aload_n dX12_init_232 rfl 0 rfl ?_
  refine x_iconst (v := 5) dX12_init_233 (by decide) ?_
  obtain ⟨a441, ea441, H⟩ := nm_o H
  obtain ⟨h440, eh440, H⟩ := nm_o H
  refine x_newa (t := .char) (N := 5) dX12_init_234 rfl (by decide) rfl ac_char (by decide) (by decide) (by decide) ?_
  rw [ea441]
  refine Ex.ren eh440 ?_
  refine x_dup dX12_init_236 rfl ?_
  refine x_iconst (v := 0) dX12_init_237 (by decide) ?_
  refine x_bipush (v := 116) dX12_init_238 (by decide) ?_
  obtain ⟨n443, c442, H⟩ := ka_o H
  obtain ⟨c444, H⟩ := chk_o H
  refine x_cast dX12_init_240 c442 (inb_in.mp c444) ?_
  refine x_dup dX12_init_241 rfl ?_
  refine x_iconst (v := 1) dX12_init_242 (by decide) ?_
  refine x_bipush (v := 114) dX12_init_243 (by decide) ?_
  obtain ⟨c445, H⟩ := chk_o H
  refine x_cast dX12_init_245 c442 (inb_in.mp c445) ?_
  refine x_dup dX12_init_246 rfl ?_
  refine x_iconst (v := 2) dX12_init_247 (by decide) ?_
  refine x_bipush (v := 97) dX12_init_248 (by decide) ?_
  obtain ⟨c446, H⟩ := chk_o H
  refine x_cast dX12_init_250 c442 (inb_in.mp c446) ?_
  refine x_dup dX12_init_251 rfl ?_
  refine x_iconst (v := 3) dX12_init_252 (by decide) ?_
  refine x_bipush (v := 112) dX12_init_253 (by decide) ?_
  obtain ⟨c447, H⟩ := chk_o H
  refine x_cast dX12_init_255 c442 (inb_in.mp c447) ?_
  refine x_dup dX12_init_256 rfl ?_
  refine x_iconst (v := 4) dX12_init_257 (by decide) ?_
  refine x_bipush (v := 115) dX12_init_258 (by decide) ?_
  obtain ⟨c448, H⟩ := chk_o H
  refine x_cast dX12_init_260 c442 (inb_in.mp c448) ?_
  obtain ⟨c449, H⟩ := ko_o H
  refine x_putR fl_X12_39 dX12_init_261 c449 (fun _ => rfl) rfl ?_
  exact t_X12_init_264 hd H
def f_X12_init_205 (x0 : Nat) (h : aH) : Option (Unit × aH) :=
  nm (hN h) fun (a451 : Nat) =>
  nm (nw h (.inr (.char, 4)) 4) fun (h450 : aH) =>
  ka h450 a451 .char fun n453 =>
  chk (inb 0 n453 = true) <|
  chk (inb 1 n453 = true) <|
  chk (inb 2 n453 = true) <|
  chk (inb 3 n453 = true) <|
  ko h450 x0 11 <|
  f_X12_init_232 x0 (sR (sI (sI (sI (sI h450 a451 (0 : Int32).toNatClampNeg ((112 : Int32).toUInt32.toUInt16.toUInt32.toInt32)) a451 (1 : Int32).toNatClampNeg ((97 : Int32).toUInt32.toUInt16.toUInt32.toInt32)) a451 (2 : Int32).toNatClampNeg ((100 : Int32).toUInt32.toUInt16.toUInt32.toInt32)) a451 (3 : Int32).toNatClampNeg ((115 : Int32).toUInt32.toUInt16.toUInt32.toInt32)) x0 16 (some a451))
set_option maxRecDepth 100000 in
set_option maxHeartbeats 4000000 in
theorem t_X12_init_205 {Γ : gS} {d : Nat} (hd : 1 ≤ d) {x0 : Nat} {h : aH} {r : Unit} {h' : aH} (H : f_X12_init_205 x0 h = some (r, h')) : Ex Γ gX12_init d 205 [(0, .ref x0)] [] h none h' := by
  unfold f_X12_init_205 at H
  obtain ⟨d, rfl⟩ : ∃ e, d = e + 1 := ⟨d - 1, by omega⟩
  refine x_aload_n dX12_init_205 rfl 0 rfl ?_
  refine x_iconst (v := 4) dX12_init_206 (by decide) ?_
  obtain ⟨a451, ea451, H⟩ := nm_o H
  obtain ⟨h450, eh450, H⟩ := nm_o H
  refine x_newa (t := .char) (N := 4) dX12_init_207 rfl (by decide) rfl ac_char (by decide) (by decide) (by decide) ?_
  rw [ea451]
  refine Ex.ren eh450 ?_
  refine x_dup dX12_init_209 rfl ?_
  refine x_iconst (v := 0) dX12_init_210 (by decide) ?_
  refine x_bipush (v := 112) dX12_init_211 (by decide) ?_
  obtain ⟨n453, c452, H⟩ := ka_o H
  obtain ⟨c454, H⟩ := chk_o H
  refine x_cast dX12_init_213 c452 (inb_in.mp c454) ?_
  refine x_dup dX12_init_214 rfl ?_
  refine x_iconst (v := 1) dX12_init_215 (by decide) ?_
  refine x_bipush (v := 97) dX12_init_216 (by decide) ?_
  obtain ⟨c455, H⟩ := chk_o H
  refine x_cast dX12_init_218 c452 (inb_in.mp c455) ?_
  refine x_dup dX12_init_219 rfl ?_
  refine x_iconst (v := 2) dX12_init_220 (by decide) ?_
  refine x_bipush (v := 100) dX12_init_221 (by decide) ?_
  obtain ⟨c456, H⟩ := chk_o H
  refine x_cast dX12_init_223 c452 (inb_in.mp c456) ?_
  refine x_dup dX12_init_224 rfl ?_
  refine x_iconst (v := 3) dX12_init_225 (by decide) ?_
  refine x_bipush (v := 115) dX12_init_226 (by decide) ?_
  obtain ⟨c457, H⟩ := chk_o H
  refine x_cast dX12_init_228 c452 (inb_in.mp c457) ?_
  obtain ⟨c458, H⟩ := ko_o H
  refine x_putR fl_X12_36 dX12_init_229 c458 (fun _ => rfl) rfl ?_
  exact t_X12_init_232 hd H
def f_X12_init_173 (x0 : Nat) (h : aH) : Option (Unit × aH) :=
  nm (hN h) fun (a460 : Nat) =>
  nm (nw h (.inr (.char, 5)) 5) fun (h459 : aH) =>
  ka h459 a460 .char fun n462 =>
  chk (inb 0 n462 = true) <|
  chk (inb 1 n462 = true) <|
  chk (inb 2 n462 = true) <|
  chk (inb 3 n462 = true) <|
  chk (inb 4 n462 = true) <|
  ko h459 x0 11 <|
  f_X12_init_205 x0 (sR (sI (sI (sI (sI (sI h459 a460 (0 : Int32).toNatClampNeg ((112 : Int32).toUInt32.toUInt16.toUInt32.toInt32)) a460 (1 : Int32).toNatClampNeg ((105 : Int32).toUInt32.toUInt16.toUInt32.toInt32)) a460 (2 : Int32).toNatClampNeg ((99 : Int32).toUInt32.toUInt16.toUInt32.toInt32)) a460 (3 : Int32).toNatClampNeg ((107 : Int32).toUInt32.toUInt16.toUInt32.toInt32)) a460 (4 : Int32).toNatClampNeg ((115 : Int32).toUInt32.toUInt16.toUInt32.toInt32)) x0 15 (some a460))
set_option maxRecDepth 100000 in
set_option maxHeartbeats 4000000 in
theorem t_X12_init_173 {Γ : gS} {d : Nat} (hd : 1 ≤ d) {x0 : Nat} {h : aH} {r : Unit} {h' : aH} (H : f_X12_init_173 x0 h = some (r, h')) : Ex Γ gX12_init d 173 [(0, .ref x0)] [] h none h' := by
  unfold f_X12_init_173 at H
  obtain ⟨d, rfl⟩ : ∃ e, d = e + 1 := ⟨d - 1, by omega⟩
  refine x_aload_n dX12_init_173 rfl 0 rfl ?_
  refine x_iconst (v := 5) dX12_init_174 (by decide) ?_
  obtain ⟨a460, ea460, H⟩ := nm_o H
  obtain ⟨h459, eh459, H⟩ := nm_o H
  refine x_newa (t := .char) (N := 5) dX12_init_175 rfl (by decide) rfl ac_char (by decide) (by decide) (by decide) ?_
  rw [ea460]
  refine Ex.ren eh459 ?_
  refine x_dup dX12_init_177 rfl ?_
  refine x_iconst (v := 0) dX12_init_178 (by decide) ?_
  refine x_bipush (v := 112) dX12_init_179 (by decide) ?_
  obtain ⟨n462, c461, H⟩ := ka_o H
  obtain ⟨c463, H⟩ := chk_o H
  refine x_cast dX12_init_181 c461 (inb_in.mp c463) ?_
  refine x_dup dX12_init_182 rfl ?_
  refine x_iconst (v := 1) dX12_init_183 (by decide) ?_
  refine x_bipush (v := 105) dX12_init_184 (by decide) ?_
  obtain ⟨c464, H⟩ := chk_o H
  refine x_cast dX12_init_186 c461 (inb_in.mp c464) ?_
  refine x_dup dX12_init_187 rfl ?_
  refine x_iconst (v := 2) dX12_init_188 (by decide) ?_
  refine x_bipush (v := 99) dX12_init_189 (by decide) ?_
  obtain ⟨c465, H⟩ := chk_o H
  refine x_cast dX12_init_191 c461 (inb_in.mp c465) ?_
  refine x_dup dX12_init_192 rfl ?_
  refine x_iconst (v := 3) dX12_init_193 (by decide) ?_
  refine x_bipush (v := 107) dX12_init_194 (by decide) ?_
  obtain ⟨c466, H⟩ := chk_o H
  refine x_cast dX12_init_196 c461 (inb_in.mp c466) ?_
  refine x_dup dX12_init_197 rfl ?_
  refine x_iconst (v := 4) dX12_init_198 (by decide) ?_
  refine x_bipush (v := 115) dX12_init_199 (by decide) ?_
  obtain ⟨c467, H⟩ := chk_o H
  refine x_cast dX12_init_201 c461 (inb_in.mp c467) ?_
  obtain ⟨c468, H⟩ := ko_o H
  refine x_putR fl_X12_33 dX12_init_202 c468 (fun _ => rfl) rfl ?_
  exact t_X12_init_205 hd H
def f_X12_init_146 (x0 : Nat) (h : aH) : Option (Unit × aH) :=
  nm (hN h) fun (a470 : Nat) =>
  nm (nw h (.inr (.char, 4)) 4) fun (h469 : aH) =>
  ka h469 a470 .char fun n472 =>
  chk (inb 0 n472 = true) <|
  chk (inb 1 n472 = true) <|
  chk (inb 2 n472 = true) <|
  chk (inb 3 n472 = true) <|
  ko h469 x0 11 <|
  f_X12_init_173 x0 (sR (sI (sI (sI (sI h469 a470 (0 : Int32).toNatClampNeg ((107 : Int32).toUInt32.toUInt16.toUInt32.toInt32)) a470 (1 : Int32).toNatClampNeg ((105 : Int32).toUInt32.toUInt16.toUInt32.toInt32)) a470 (2 : Int32).toNatClampNeg ((110 : Int32).toUInt32.toUInt16.toUInt32.toInt32)) a470 (3 : Int32).toNatClampNeg ((100 : Int32).toUInt32.toUInt16.toUInt32.toInt32)) x0 14 (some a470))
set_option maxRecDepth 100000 in
set_option maxHeartbeats 4000000 in
theorem t_X12_init_146 {Γ : gS} {d : Nat} (hd : 1 ≤ d) {x0 : Nat} {h : aH} {r : Unit} {h' : aH} (H : f_X12_init_146 x0 h = some (r, h')) : Ex Γ gX12_init d 146 [(0, .ref x0)] [] h none h' := by
  unfold f_X12_init_146 at H
  obtain ⟨d, rfl⟩ : ∃ e, d = e + 1 := ⟨d - 1, by omega⟩
  refine x_aload_n dX12_init_146 rfl 0 rfl ?_
  refine x_iconst (v := 4) dX12_init_147 (by decide) ?_
  obtain ⟨a470, ea470, H⟩ := nm_o H
  obtain ⟨h469, eh469, H⟩ := nm_o H
  refine x_newa (t := .char) (N := 4) dX12_init_148 rfl (by decide) rfl ac_char (by decide) (by decide) (by decide) ?_
  rw [ea470]
  refine Ex.ren eh469 ?_
  refine x_dup dX12_init_150 rfl ?_
  refine x_iconst (v := 0) dX12_init_151 (by decide) ?_
  refine x_bipush (v := 107) dX12_init_152 (by decide) ?_
  obtain ⟨n472, c471, H⟩ := ka_o H
  obtain ⟨c473, H⟩ := chk_o H
  refine x_cast dX12_init_154 c471 (inb_in.mp c473) ?_
  refine x_dup dX12_init_155 rfl ?_
  refine x_iconst (v := 1) dX12_init_156 (by decide) ?_
  refine x_bipush (v := 105) dX12_init_157 (by decide) ?_
  obtain ⟨c474, H⟩ := chk_o H
  refine x_cast dX12_init_159 c471 (inb_in.mp c474) ?_
  refine x_dup dX12_init_160 rfl ?_
  refine x_iconst (v := 2) dX12_init_161 (by decide) ?_
  refine x_bipush (v := 110) dX12_init_162 (by decide) ?_
  obtain ⟨c475, H⟩ := chk_o H
  refine x_cast dX12_init_164 c471 (inb_in.mp c475) ?_
  refine x_dup dX12_init_165 rfl ?_
  refine x_iconst (v := 3) dX12_init_166 (by decide) ?_
  refine x_bipush (v := 100) dX12_init_167 (by decide) ?_
  obtain ⟨c476, H⟩ := chk_o H
  refine x_cast dX12_init_169 c471 (inb_in.mp c476) ?_
  obtain ⟨c477, H⟩ := ko_o H
  refine x_putR fl_X12_30 dX12_init_170 c477 (fun _ => rfl) rfl ?_
  exact t_X12_init_173 hd H
def f_X12_init_114 (x0 : Nat) (h : aH) : Option (Unit × aH) :=
  nm (hN h) fun (a479 : Nat) =>
  nm (nw h (.inr (.char, 5)) 5) fun (h478 : aH) =>
  ka h478 a479 .char fun n481 =>
  chk (inb 0 n481 = true) <|
  chk (inb 1 n481 = true) <|
  chk (inb 2 n481 = true) <|
  chk (inb 3 n481 = true) <|
  chk (inb 4 n481 = true) <|
  ko h478 x0 11 <|
  f_X12_init_146 x0 (sR (sI (sI (sI (sI (sI h478 a479 (0 : Int32).toNatClampNeg ((115 : Int32).toUInt32.toUInt16.toUInt32.toInt32)) a479 (1 : Int32).toNatClampNeg ((104 : Int32).toUInt32.toUInt16.toUInt32.toInt32)) a479 (2 : Int32).toNatClampNeg ((101 : Int32).toUInt32.toUInt16.toUInt32.toInt32)) a479 (3 : Int32).toNatClampNeg ((108 : Int32).toUInt32.toUInt16.toUInt32.toInt32)) a479 (4 : Int32).toNatClampNeg ((102 : Int32).toUInt32.toUInt16.toUInt32.toInt32)) x0 13 (some a479))
set_option maxRecDepth 100000 in
set_option maxHeartbeats 4000000 in
theorem t_X12_init_114 {Γ : gS} {d : Nat} (hd : 1 ≤ d) {x0 : Nat} {h : aH} {r : Unit} {h' : aH} (H : f_X12_init_114 x0 h = some (r, h')) : Ex Γ gX12_init d 114 [(0, .ref x0)] [] h none h' := by
  unfold f_X12_init_114 at H
  obtain ⟨d, rfl⟩ : ∃ e, d = e + 1 := ⟨d - 1, by omega⟩
  refine x_aload_n dX12_init_114 rfl 0 rfl ?_
  refine x_iconst (v := 5) dX12_init_115 (by decide) ?_
  obtain ⟨a479, ea479, H⟩ := nm_o H
  obtain ⟨h478, eh478, H⟩ := nm_o H
  refine x_newa (t := .char) (N := 5) dX12_init_116 rfl (by decide) rfl ac_char (by decide) (by decide) (by decide) ?_
  rw [ea479]
  refine Ex.ren eh478 ?_
  refine x_dup dX12_init_118 rfl ?_
  refine x_iconst (v := 0) dX12_init_119 (by decide) ?_
  refine x_bipush (v := 115) dX12_init_120 (by decide) ?_
  obtain ⟨n481, c480, H⟩ := ka_o H
  obtain ⟨c482, H⟩ := chk_o H
  refine x_cast dX12_init_122 c480 (inb_in.mp c482) ?_
  refine x_dup dX12_init_123 rfl ?_
  refine x_iconst (v := 1) dX12_init_124 (by decide) ?_
  refine x_bipush (v := 104) dX12_init_125 (by decide) ?_
  obtain ⟨c483, H⟩ := chk_o H
  refine x_cast dX12_init_127 c480 (inb_in.mp c483) ?_
  refine x_dup dX12_init_128 rfl ?_
  refine x_iconst (v := 2) dX12_init_129 (by decide) ?_
  refine x_bipush (v := 101) dX12_init_130 (by decide) ?_
  obtain ⟨c484, H⟩ := chk_o H
  refine x_cast dX12_init_132 c480 (inb_in.mp c484) ?_
  refine x_dup dX12_init_133 rfl ?_
  refine x_iconst (v := 3) dX12_init_134 (by decide) ?_
  refine x_bipush (v := 108) dX12_init_135 (by decide) ?_
  obtain ⟨c485, H⟩ := chk_o H
  refine x_cast dX12_init_137 c480 (inb_in.mp c485) ?_
  refine x_dup dX12_init_138 rfl ?_
  refine x_iconst (v := 4) dX12_init_139 (by decide) ?_
  refine x_bipush (v := 102) dX12_init_140 (by decide) ?_
  obtain ⟨c486, H⟩ := chk_o H
  refine x_cast dX12_init_142 c480 (inb_in.mp c486) ?_
  obtain ⟨c487, H⟩ := ko_o H
  refine x_putR fl_X12_27 dX12_init_143 c487 (fun _ => rfl) rfl ?_
  exact t_X12_init_146 hd H
def f_X12_init_64 (x0 : Nat) (h : aH) : Option (Unit × aH) :=
  nm (hN h) fun (a489 : Nat) =>
  nm (nw h (.inr (.char, 8)) 8) fun (h488 : aH) =>
  ka h488 a489 .char fun n491 =>
  chk (inb 0 n491 = true) <|
  chk (inb 1 n491 = true) <|
  chk (inb 2 n491 = true) <|
  chk (inb 3 n491 = true) <|
  chk (inb 4 n491 = true) <|
  chk (inb 5 n491 = true) <|
  chk (inb 6 n491 = true) <|
  chk (inb 7 n491 = true) <|
  ko h488 x0 11 <|
  f_X12_init_114 x0 (sR (sI (sI (sI (sI (sI (sI (sI (sI h488 a489 (0 : Int32).toNatClampNeg ((109 : Int32).toUInt32.toUInt16.toUInt32.toInt32)) a489 (1 : Int32).toNatClampNeg ((97 : Int32).toUInt32.toUInt16.toUInt32.toInt32)) a489 (2 : Int32).toNatClampNeg ((110 : Int32).toUInt32.toUInt16.toUInt32.toInt32)) a489 (3 : Int32).toNatClampNeg ((116 : Int32).toUInt32.toUInt16.toUInt32.toInt32)) a489 (4 : Int32).toNatClampNeg ((105 : Int32).toUInt32.toUInt16.toUInt32.toInt32)) a489 (5 : Int32).toNatClampNeg ((115 : Int32).toUInt32.toUInt16.toUInt32.toInt32)) a489 (6 : Int32).toNatClampNeg ((115 : Int32).toUInt32.toUInt16.toUInt32.toInt32)) a489 (7 : Int32).toNatClampNeg ((97 : Int32).toUInt32.toUInt16.toUInt32.toInt32)) x0 12 (some a489))
set_option maxRecDepth 100000 in
set_option maxHeartbeats 4000000 in
theorem t_X12_init_64 {Γ : gS} {d : Nat} (hd : 1 ≤ d) {x0 : Nat} {h : aH} {r : Unit} {h' : aH} (H : f_X12_init_64 x0 h = some (r, h')) : Ex Γ gX12_init d 64 [(0, .ref x0)] [] h none h' := by
  unfold f_X12_init_64 at H
  obtain ⟨d, rfl⟩ : ∃ e, d = e + 1 := ⟨d - 1, by omega⟩
  refine x_aload_n dX12_init_64 rfl 0 rfl ?_
  refine x_bipush (v := 8) dX12_init_65 (by decide) ?_
  obtain ⟨a489, ea489, H⟩ := nm_o H
  obtain ⟨h488, eh488, H⟩ := nm_o H
  refine x_newa (t := .char) (N := 8) dX12_init_67 rfl (by decide) rfl ac_char (by decide) (by decide) (by decide) ?_
  rw [ea489]
  refine Ex.ren eh488 ?_
  refine x_dup dX12_init_69 rfl ?_
  refine x_iconst (v := 0) dX12_init_70 (by decide) ?_
  refine x_bipush (v := 109) dX12_init_71 (by decide) ?_
  obtain ⟨n491, c490, H⟩ := ka_o H
  obtain ⟨c492, H⟩ := chk_o H
  refine x_cast dX12_init_73 c490 (inb_in.mp c492) ?_
  refine x_dup dX12_init_74 rfl ?_
  refine x_iconst (v := 1) dX12_init_75 (by decide) ?_
  refine x_bipush (v := 97) dX12_init_76 (by decide) ?_
  obtain ⟨c493, H⟩ := chk_o H
  refine x_cast dX12_init_78 c490 (inb_in.mp c493) ?_
  refine x_dup dX12_init_79 rfl ?_
  refine x_iconst (v := 2) dX12_init_80 (by decide) ?_
  refine x_bipush (v := 110) dX12_init_81 (by decide) ?_
  obtain ⟨c494, H⟩ := chk_o H
  refine x_cast dX12_init_83 c490 (inb_in.mp c494) ?_
  refine x_dup dX12_init_84 rfl ?_
  refine x_iconst (v := 3) dX12_init_85 (by decide) ?_
  refine x_bipush (v := 116) dX12_init_86 (by decide) ?_
  obtain ⟨c495, H⟩ := chk_o H
  refine x_cast dX12_init_88 c490 (inb_in.mp c495) ?_
  refine x_dup dX12_init_89 rfl ?_
  refine x_iconst (v := 4) dX12_init_90 (by decide) ?_
  refine x_bipush (v := 105) dX12_init_91 (by decide) ?_
  obtain ⟨c496, H⟩ := chk_o H
  refine x_cast dX12_init_93 c490 (inb_in.mp c496) ?_
  refine x_dup dX12_init_94 rfl ?_
  refine x_iconst (v := 5) dX12_init_95 (by decide) ?_
  refine x_bipush (v := 115) dX12_init_96 (by decide) ?_
  obtain ⟨c497, H⟩ := chk_o H
  refine x_cast dX12_init_98 c490 (inb_in.mp c497) ?_
  refine x_dup dX12_init_99 rfl ?_
  refine x_bipush (v := 6) dX12_init_100 (by decide) ?_
  refine x_bipush (v := 115) dX12_init_102 (by decide) ?_
  obtain ⟨c498, H⟩ := chk_o H
  refine x_cast dX12_init_104 c490 (inb_in.mp c498) ?_
  refine x_dup dX12_init_105 rfl ?_
  refine x_bipush (v := 7) dX12_init_106 (by decide) ?_
  refine x_bipush (v := 97) dX12_init_108 (by decide) ?_
  obtain ⟨c499, H⟩ := chk_o H
  refine x_cast dX12_init_110 c490 (inb_in.mp c499) ?_
  obtain ⟨c500, H⟩ := ko_o H
  refine x_putR fl_X12_24 dX12_init_111 c500 (fun _ => rfl) rfl ?_
  exact t_X12_init_114 hd H
def f_X12_init_26 (x0 : Nat) (h : aH) : Option (Unit × aH) :=
  nm (hN h) fun (a502 : Nat) =>
  nm (nw h (.inr (.char, 6)) 6) fun (h501 : aH) =>
  ka h501 a502 .char fun n504 =>
  chk (inb 0 n504 = true) <|
  chk (inb 1 n504 = true) <|
  chk (inb 2 n504 = true) <|
  chk (inb 3 n504 = true) <|
  chk (inb 4 n504 = true) <|
  chk (inb 5 n504 = true) <|
  ko h501 x0 11 <|
  f_X12_init_64 x0 (sR (sI (sI (sI (sI (sI (sI h501 a502 (0 : Int32).toNatClampNeg ((109 : Int32).toUInt32.toUInt16.toUInt32.toInt32)) a502 (1 : Int32).toNatClampNeg ((101 : Int32).toUInt32.toUInt16.toUInt32.toInt32)) a502 (2 : Int32).toNatClampNeg ((109 : Int32).toUInt32.toUInt16.toUInt32.toInt32)) a502 (3 : Int32).toNatClampNeg ((111 : Int32).toUInt32.toUInt16.toUInt32.toInt32)) a502 (4 : Int32).toNatClampNeg ((114 : Int32).toUInt32.toUInt16.toUInt32.toInt32)) a502 (5 : Int32).toNatClampNeg ((121 : Int32).toUInt32.toUInt16.toUInt32.toInt32)) x0 11 (some a502))
set_option maxRecDepth 100000 in
set_option maxHeartbeats 4000000 in
theorem t_X12_init_26 {Γ : gS} {d : Nat} (hd : 1 ≤ d) {x0 : Nat} {h : aH} {r : Unit} {h' : aH} (H : f_X12_init_26 x0 h = some (r, h')) : Ex Γ gX12_init d 26 [(0, .ref x0)] [] h none h' := by
  unfold f_X12_init_26 at H
  obtain ⟨d, rfl⟩ : ∃ e, d = e + 1 := ⟨d - 1, by omega⟩
  refine x_aload_n dX12_init_26 rfl 0 rfl ?_
  refine x_bipush (v := 6) dX12_init_27 (by decide) ?_
  obtain ⟨a502, ea502, H⟩ := nm_o H
  obtain ⟨h501, eh501, H⟩ := nm_o H
  refine x_newa (t := .char) (N := 6) dX12_init_29 rfl (by decide) rfl ac_char (by decide) (by decide) (by decide) ?_
  rw [ea502]
  refine Ex.ren eh501 ?_
  refine x_dup dX12_init_31 rfl ?_
  refine x_iconst (v := 0) dX12_init_32 (by decide) ?_
  refine x_bipush (v := 109) dX12_init_33 (by decide) ?_
  obtain ⟨n504, c503, H⟩ := ka_o H
  obtain ⟨c505, H⟩ := chk_o H
  refine x_cast dX12_init_35 c503 (inb_in.mp c505) ?_
  refine x_dup dX12_init_36 rfl ?_
  refine x_iconst (v := 1) dX12_init_37 (by decide) ?_
  refine x_bipush (v := 101) dX12_init_38 (by decide) ?_
  obtain ⟨c506, H⟩ := chk_o H
  refine x_cast dX12_init_40 c503 (inb_in.mp c506) ?_
  refine x_dup dX12_init_41 rfl ?_
  refine x_iconst (v := 2) dX12_init_42 (by decide) ?_
  refine x_bipush (v := 109) dX12_init_43 (by decide) ?_
  obtain ⟨c507, H⟩ := chk_o H
  refine x_cast dX12_init_45 c503 (inb_in.mp c507) ?_
  refine x_dup dX12_init_46 rfl ?_
  refine x_iconst (v := 3) dX12_init_47 (by decide) ?_
  refine x_bipush (v := 111) dX12_init_48 (by decide) ?_
  obtain ⟨c508, H⟩ := chk_o H
  refine x_cast dX12_init_50 c503 (inb_in.mp c508) ?_
  refine x_dup dX12_init_51 rfl ?_
  refine x_iconst (v := 4) dX12_init_52 (by decide) ?_
  refine x_bipush (v := 114) dX12_init_53 (by decide) ?_
  obtain ⟨c509, H⟩ := chk_o H
  refine x_cast dX12_init_55 c503 (inb_in.mp c509) ?_
  refine x_dup dX12_init_56 rfl ?_
  refine x_iconst (v := 5) dX12_init_57 (by decide) ?_
  refine x_bipush (v := 121) dX12_init_58 (by decide) ?_
  obtain ⟨c510, H⟩ := chk_o H
  refine x_cast dX12_init_60 c503 (inb_in.mp c510) ?_
  obtain ⟨c511, H⟩ := ko_o H
  refine x_putR fl_X12_20 dX12_init_61 c511 (fun _ => rfl) rfl ?_
  exact t_X12_init_64 hd H
def f_X12_init_18 (x0 : Nat) (h : aH) : Option (Unit × aH) :=
  nm (hN h) fun (a513 : Nat) =>
  nm (nw h (.inr (.int, 8)) 8) fun (h512 : aH) =>
  ko h512 x0 11 <|
  f_X12_init_26 x0 (sR h512 x0 9 (some a513))
set_option maxRecDepth 100000 in
set_option maxHeartbeats 4000000 in
theorem t_X12_init_18 {Γ : gS} {d : Nat} (hd : 1 ≤ d) {x0 : Nat} {h : aH} {r : Unit} {h' : aH} (H : f_X12_init_18 x0 h = some (r, h')) : Ex Γ gX12_init d 18 [(0, .ref x0)] [] h none h' := by
  unfold f_X12_init_18 at H
  obtain ⟨d, rfl⟩ : ∃ e, d = e + 1 := ⟨d - 1, by omega⟩
  refine x_aload_n dX12_init_18 rfl 0 rfl ?_
  refine x_bipush (v := 8) dX12_init_19 (by decide) ?_
  obtain ⟨a513, ea513, H⟩ := nm_o H
  obtain ⟨h512, eh512, H⟩ := nm_o H
  refine x_newa (t := .int) (N := 8) dX12_init_21 rfl (by decide) rfl ac_int (by decide) (by decide) (by decide) ?_
  rw [ea513]
  refine Ex.ren eh512 ?_
  obtain ⟨c514, H⟩ := ko_o H
  refine x_putR fl_X12_17 dX12_init_23 c514 (fun _ => rfl) rfl ?_
  exact t_X12_init_26 hd H
def f_X12_init_13 (x0 : Nat) (h : aH) : Option (Unit × aH) :=
  ko h x0 11 <|
  f_X12_init_18 x0 (sI h x0 8 (-1))
set_option maxRecDepth 100000 in
set_option maxHeartbeats 4000000 in
theorem t_X12_init_13 {Γ : gS} {d : Nat} (hd : 1 ≤ d) {x0 : Nat} {h : aH} {r : Unit} {h' : aH} (H : f_X12_init_13 x0 h = some (r, h')) : Ex Γ gX12_init d 13 [(0, .ref x0)] [] h none h' := by
  unfold f_X12_init_13 at H
  obtain ⟨d, rfl⟩ : ∃ e, d = e + 1 := ⟨d - 1, by omega⟩
  refine x_aload_n dX12_init_13 rfl 0 rfl ?_
  refine x_iconst (v := (-1)) dX12_init_14 (by decide) ?_
  obtain ⟨c515, H⟩ := ko_o H
  refine x_putI fl_X12_13 dX12_init_15 c515 (fun e => by cases e) rfl ?_
  exact t_X12_init_18 hd H
def f_X12_init (x0 : Nat) (h : aH) : Option (Unit × aH) :=
  nm (hN h) fun (a517 : Nat) =>
  nm (nw h (.inr (.int, 1600)) 1600) fun (h516 : aH) =>
  ko h516 x0 11 <|
  f_X12_init_13 x0 (sR h516 x0 0 (some a517))
set_option maxRecDepth 100000 in
set_option maxHeartbeats 4000000 in
theorem t_X12_init {Γ : gS} {d : Nat} (hd : 1 ≤ d) {x0 : Nat} {h : aH} {r : Unit} {h' : aH} (H : f_X12_init x0 h = some (r, h')) : Mx Γ gX12_init d [.ref x0] h none h' := by
  refine Mx.of (by decide +kernel) (Nat.le_of_ble_eq_true rfl) ?_
  unfold f_X12_init at H
  show Ex Γ gX12_init d 0 [(0, .ref x0)] [] h none h'
  obtain ⟨d, rfl⟩ : ∃ e, d = e + 1 := ⟨d - 1, by omega⟩
  refine x_aload_n dX12_init_0 rfl 0 rfl ?_
  refine x_oinit dX12_init_1 lk_X12_1 im_obj co_obj (Nat.le_of_ble_eq_true rfl) ?_
  refine x_aload_n dX12_init_4 rfl 0 rfl ?_
  refine x_sipush (v := 1600) dX12_init_5 (by decide) ?_
  obtain ⟨a517, ea517, H⟩ := nm_o H
  obtain ⟨h516, eh516, H⟩ := nm_o H
  refine x_newa (t := .int) (N := 1600) dX12_init_8 rfl (by decide) rfl ac_int (by decide) (by decide) (by decide) ?_
  rw [ea517]
  refine Ex.ren eh516 ?_
  obtain ⟨c518, H⟩ := ko_o H
  refine x_putR fl_X12_7 dX12_init_10 c518 (fun _ => rfl) rfl ?_
  exact t_X12_init_13 hd H
