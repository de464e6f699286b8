def f_X12_init (x0 : Nat) (h : aH) : Option (Unit × aH) :=
  nm (hN h) fun (a2 : Nat) =>
  nm (nw h (.inr (.int, 1600)) 1600) fun (h1 : aH) =>
  ko h1 x0 11 <|
  nm (hN (sI (sR h1 x0 0 (some a2)) x0 8 (-1))) fun (a5 : Nat) =>
  nm (nw (sI (sR h1 x0 0 (some a2)) x0 8 (-1)) (.inr (.int, 8)) 8) fun (h4 : aH) =>
  ko h4 x0 11 <|
  nm (hN (sR h4 x0 9 (some a5))) fun (a8 : Nat) =>
  nm (nw (sR h4 x0 9 (some a5)) (.inr (.char, 6)) 6) fun (h7 : aH) =>
  ka h7 a8 .char fun n10 =>
  chk (inb 0 n10 = true) <|
  chk (inb 1 n10 = true) <|
  chk (inb 2 n10 = true) <|
  chk (inb 3 n10 = true) <|
  chk (inb 4 n10 = true) <|
  chk (inb 5 n10 = true) <|
  ko h7 x0 11 <|
  nm (hN (sR (sI (sI (sI (sI (sI (sI h7 a8 (0 : Int32).toNatClampNeg ((109 : Int32).toUInt32.toUInt16.toUInt32.toInt32)) a8 (1 : Int32).toNatClampNeg ((101 : Int32).toUInt32.toUInt16.toUInt32.toInt32)) a8 (2 : Int32).toNatClampNeg ((109 : Int32).toUInt32.toUInt16.toUInt32.toInt32)) a8 (3 : Int32).toNatClampNeg ((111 : Int32).toUInt32.toUInt16.toUInt32.toInt32)) a8 (4 : Int32).toNatClampNeg ((114 : Int32).toUInt32.toUInt16.toUInt32.toInt32)) a8 (5 : Int32).toNatClampNeg ((121 : Int32).toUInt32.toUInt16.toUInt32.toInt32)) x0 11 (some a8))) fun (a19 : Nat) =>
  nm (nw (sR (sI (sI (sI (sI (sI (sI h7 a8 (0 : Int32).toNatClampNeg ((109 : Int32).toUInt32.toUInt16.toUInt32.toInt32)) a8 (1 : Int32).toNatClampNeg ((101 : Int32).toUInt32.toUInt16.toUInt32.toInt32)) a8 (2 : Int32).toNatClampNeg ((109 : Int32).toUInt32.toUInt16.toUInt32.toInt32)) a8 (3 : Int32).toNatClampNeg ((111 : Int32).toUInt32.toUInt16.toUInt32.toInt32)) a8 (4 : Int32).toNatClampNeg ((114 : Int32).toUInt32.toUInt16.toUInt32.toInt32)) a8 (5 : Int32).toNatClampNeg ((121 : Int32).toUInt32.toUInt16.toUInt32.toInt32)) x0 11 (some a8)) (.inr (.char, 8)) 8) fun (h18 : aH) =>
  ka h18 a19 .char fun n21 =>
  chk (inb 0 n21 = true) <|
  chk (inb 1 n21 = true) <|
  chk (inb 2 n21 = true) <|
  chk (inb 3 n21 = true) <|
  chk (inb 4 n21 = true) <|
  chk (inb 5 n21 = true) <|
  chk (inb 6 n21 = true) <|
  chk (inb 7 n21 = true) <|
  ko h18 x0 11 <|
  nm (hN (sR (sI (sI (sI (sI (sI (sI (sI (sI h18 a19 (0 : Int32).toNatClampNeg ((109 : Int32).toUInt32.toUInt16.toUInt32.toInt32)) a19 (1 : Int32).toNatClampNeg ((97 : Int32).toUInt32.toUInt16.toUInt32.toInt32)) a19 (2 : Int32).toNatClampNeg ((110 : Int32).toUInt32.toUInt16.toUInt32.toInt32)) a19 (3 : Int32).toNatClampNeg ((116 : Int32).toUInt32.toUInt16.toUInt32.toInt32)) a19 (4 : Int32).toNatClampNeg ((105 : Int32).toUInt32.toUInt16.toUInt32.toInt32)) a19 (5 : Int32).toNatClampNeg ((115 : Int32).toUInt32.toUInt16.toUInt32.toInt32)) a19 (6 : Int32).toNatClampNeg ((115 : Int32).toUInt32.toUInt16.toUInt32.toInt32)) a19 (7 : Int32).toNatClampNeg ((97 : Int32).toUInt32.toUInt16.toUInt32.toInt32)) x0 12 (some a19))) fun (a32 : Nat) =>
  nm (nw (sR (sI (sI (sI (sI (sI (sI (sI (sI h18 a19 (0 : Int32).toNatClampNeg ((109 : Int32).toUInt32.toUInt16.toUInt32.toInt32)) a19 (1 : Int32).toNatClampNeg ((97 : Int32).toUInt32.toUInt16.toUInt32.toInt32)) a19 (2 : Int32).toNatClampNeg ((110 : Int32).toUInt32.toUInt16.toUInt32.toInt32)) a19 (3 : Int32).toNatClampNeg ((116 : Int32).toUInt32.toUInt16.toUInt32.toInt32)) a19 (4 : Int32).toNatClampNeg ((105 : Int32).toUInt32.toUInt16.toUInt32.toInt32)) a19 (5 : Int32).toNatClampNeg ((115 : Int32).toUInt32.toUInt16.toUInt32.toInt32)) a19 (6 : Int32).toNatClampNeg ((115 : Int32).toUInt32.toUInt16.toUInt32.toInt32)) a19 (7 : Int32).toNatClampNeg ((97 : Int32).toUInt32.toUInt16.toUInt32.toInt32)) x0 12 (some a19)) (.inr (.char, 5)) 5) fun (h31 : aH) =>
  ka h31 a32 .char fun n34 =>
  chk (inb 0 n34 = true) <|
  chk (inb 1 n34 = true) <|
  chk (inb 2 n34 = true) <|
  chk (inb 3 n34 = true) <|
  chk (inb 4 n34 = true) <|
  ko h31 x0 11 <|
  nm (hN (sR (sI (sI (sI (sI (sI h31 a32 (0 : Int32).toNatClampNeg ((115 : Int32).toUInt32.toUInt16.toUInt32.toInt32)) a32 (1 : Int32).toNatClampNeg ((104 : Int32).toUInt32.toUInt16.toUInt32.toInt32)) a32 (2 : Int32).toNatClampNeg ((101 : Int32).toUInt32.toUInt16.toUInt32.toInt32)) a32 (3 : Int32).toNatClampNeg ((108 : Int32).toUInt32.toUInt16.toUInt32.toInt32)) a32 (4 : Int32).toNatClampNeg ((102 : Int32).toUInt32.toUInt16.toUInt32.toInt32)) x0 13 (some a32))) fun (a42 : Nat) =>
  nm (nw (sR (sI (sI (sI (sI (sI h31 a32 (0 : Int32).toNatClampNeg ((115 : Int32).toUInt32.toUInt16.toUInt32.toInt32)) a32 (1 : Int32).toNatClampNeg ((104 : Int32).toUInt32.toUInt16.toUInt32.toInt32)) a32 (2 : Int32).toNatClampNeg ((101 : Int32).toUInt32.toUInt16.toUInt32.toInt32)) a32 (3 : Int32).toNatClampNeg ((108 : Int32).toUInt32.toUInt16.toUInt32.toInt32)) a32 (4 : Int32).toNatClampNeg ((102 : Int32).toUInt32.toUInt16.toUInt32.toInt32)) x0 13 (some a32)) (.inr (.char, 4)) 4) fun (h41 : aH) =>
  ka h41 a42 .char fun n44 =>
  chk (inb 0 n44 = true) <|
  chk (inb 1 n44 = true) <|
  chk (inb 2 n44 = true) <|
  chk (inb 3 n44 = true) <|
  ko h41 x0 11 <|
  nm (hN (sR (sI (sI (sI (sI h41 a42 (0 : Int32).toNatClampNeg ((107 : Int32).toUInt32.toUInt16.toUInt32.toInt32)) a42 (1 : Int32).toNatClampNeg ((105 : Int32).toUInt32.toUInt16.toUInt32.toInt32)) a42 (2 : Int32).toNatClampNeg ((110 : Int32).toUInt32.toUInt16.toUInt32.toInt32)) a42 (3 : Int32).toNatClampNeg ((100 : Int32).toUInt32.toUInt16.toUInt32.toInt32)) x0 14 (some a42))) fun (a51 : Nat) =>
  nm (nw (sR (sI (sI (sI (sI h41 a42 (0 : Int32).toNatClampNeg ((107 : Int32).toUInt32.toUInt16.toUInt32.toInt32)) a42 (1 : Int32).toNatClampNeg ((105 : Int32).toUInt32.toUInt16.toUInt32.toInt32)) a42 (2 : Int32).toNatClampNeg ((110 : Int32).toUInt32.toUInt16.toUInt32.toInt32)) a42 (3 : Int32).toNatClampNeg ((100 : Int32).toUInt32.toUInt16.toUInt32.toInt32)) x0 14 (some a42)) (.inr (.char, 5)) 5) fun (h50 : aH) =>
  ka h50 a51 .char fun n53 =>
  chk (inb 0 n53 = true) <|
  chk (inb 1 n53 = true) <|
  chk (inb 2 n53 = true) <|
  chk (inb 3 n53 = true) <|
  chk (inb 4 n53 = true) <|
  ko h50 x0 11 <|
  nm (hN (sR (sI (sI (sI (sI (sI h50 a51 (0 : Int32).toNatClampNeg ((112 : Int32).toUInt32.toUInt16.toUInt32.toInt32)) a51 (1 : Int32).toNatClampNeg ((105 : Int32).toUInt32.toUInt16.toUInt32.toInt32)) a51 (2 : Int32).toNatClampNeg ((99 : Int32).toUInt32.toUInt16.toUInt32.toInt32)) a51 (3 : Int32).toNatClampNeg ((107 : Int32).toUInt32.toUInt16.toUInt32.toInt32)) a51 (4 : Int32).toNatClampNeg ((115 : Int32).toUInt32.toUInt16.toUInt32.toInt32)) x0 15 (some a51))) fun (a61 : Nat) =>
  nm (nw (sR (sI (sI (sI (sI (sI h50 a51 (0 : Int32).toNatClampNeg ((112 : Int32).toUInt32.toUInt16.toUInt32.toInt32)) a51 (1 : Int32).toNatClampNeg ((105 : Int32).toUInt32.toUInt16.toUInt32.toInt32)) a51 (2 : Int32).toNatClampNeg ((99 : Int32).toUInt32.toUInt16.toUInt32.toInt32)) a51 (3 : Int32).toNatClampNeg ((107 : Int32).toUInt32.toUInt16.toUInt32.toInt32)) a51 (4 : Int32).toNatClampNeg ((115 : Int32).toUInt32.toUInt16.toUInt32.toInt32)) x0 15 (some a51)) (.inr (.char, 4)) 4) fun (h60 : aH) =>
  ka h60 a61 .char fun n63 =>
  chk (inb 0 n63 = true) <|
  chk (inb 1 n63 = true) <|
  chk (inb 2 n63 = true) <|
  chk (inb 3 n63 = true) <|
  ko h60 x0 11 <|
  nm (hN (sR (sI (sI (sI (sI h60 a61 (0 : Int32).toNatClampNeg ((112 : Int32).toUInt32.toUInt16.toUInt32.toInt32)) a61 (1 : Int32).toNatClampNeg ((97 : Int32).toUInt32.toUInt16.toUInt32.toInt32)) a61 (2 : Int32).toNatClampNeg ((100 : Int32).toUInt32.toUInt16.toUInt32.toInt32)) a61 (3 : Int32).toNatClampNeg ((115 : Int32).toUInt32.toUInt16.toUInt32.toInt32)) x0 16 (some a61))) fun (a70 : Nat) =>
  nm (nw (sR (sI (sI (sI (sI h60 a61 (0 : Int32).toNatClampNeg ((112 : Int32).toUInt32.toUInt16.toUInt32.toInt32)) a61 (1 : Int32).toNatClampNeg ((97 : Int32).toUInt32.toUInt16.toUInt32.toInt32)) a61 (2 : Int32).toNatClampNeg ((100 : Int32).toUInt32.toUInt16.toUInt32.toInt32)) a61 (3 : Int32).toNatClampNeg ((115 : Int32).toUInt32.toUInt16.toUInt32.toInt32)) x0 16 (some a61)) (.inr (.char, 5)) 5) fun (h69 : aH) =>
  ka h69 a70 .char fun n72 =>
  chk (inb 0 n72 = true) <|
  chk (inb 1 n72 = true) <|
  chk (inb 2 n72 = true) <|
  chk (inb 3 n72 = true) <|
  chk (inb 4 n72 = true) <|
  ko h69 x0 11 <|
  nm (hN (sR (sI (sI (sI (sI (sI h69 a70 (0 : Int32).toNatClampNeg ((116 : Int32).toUInt32.toUInt16.toUInt32.toInt32)) a70 (1 : Int32).toNatClampNeg ((114 : Int32).toUInt32.toUInt16.toUInt32.toInt32)) a70 (2 : Int32).toNatClampNeg ((97 : Int32).toUInt32.toUInt16.toUInt32.toInt32)) a70 (3 : Int32).toNatClampNeg ((112 : Int32).toUInt32.toUInt16.toUInt32.toInt32)) a70 (4 : Int32).toNatClampNeg ((115 : Int32).toUInt32.toUInt16.toUInt32.toInt32)) x0 17 (some a70))) fun (a80 : Nat) =>
  nm (nw (sR (sI (sI (sI (sI (sI h69 a70 (0 : Int32).toNatClampNeg ((116 : Int32).toUInt32.toUInt16.toUInt32.toInt32)) a70 (1 : Int32).toNatClampNeg ((114 : Int32).toUInt32.toUInt16.toUInt32.toInt32)) a70 (2 : Int32).toNatClampNeg ((97 : Int32).toUInt32.toUInt16.toUInt32.toInt32)) a70 (3 : Int32).toNatClampNeg ((112 : Int32).toUInt32.toUInt16.toUInt32.toInt32)) a70 (4 : Int32).toNatClampNeg ((115 : Int32).toUInt32.toUInt16.toUInt32.toInt32)) x0 17 (some a70)) (.inr (.char, 4)) 4) fun (h79 : aH) =>
  ka h79 a80 .char fun n82 =>
  chk (inb 0 n82 = true) <|
  chk (inb 1 n82 = true) <|
  chk (inb 2 n82 = true) <|
  chk (inb 3 n82 = true) <|
  ko h79 x0 11 <|
  nm (hN (sR (sI (sI (sI (sI h79 a80 (0 : Int32).toNatClampNeg ((110 : Int32).toUInt32.toUInt16.toUInt32.toInt32)) a80 (1 : Int32).toNatClampNeg ((101 : Int32).toUInt32.toUInt16.toUInt32.toInt32)) a80 (2 : Int32).toNatClampNeg ((101 : Int32).toUInt32.toUInt16.toUInt32.toInt32)) a80 (3 : Int32).toNatClampNeg ((100 : Int32).toUInt32.toUInt16.toUInt32.toInt32)) x0 18 (some a80))) fun (a89 : Nat) =>
  nm (nw (sR (sI (sI (sI (sI h79 a80 (0 : Int32).toNatClampNeg ((110 : Int32).toUInt32.toUInt16.toUInt32.toInt32)) a80 (1 : Int32).toNatClampNeg ((101 : Int32).toUInt32.toUInt16.toUInt32.toInt32)) a80 (2 : Int32).toNatClampNeg ((101 : Int32).toUInt32.toUInt16.toUInt32.toInt32)) a80 (3 : Int32).toNatClampNeg ((100 : Int32).toUInt32.toUInt16.toUInt32.toInt32)) x0 18 (some a80)) (.inr (.char, 5)) 5) fun (h88 : aH) =>
  ka h88 a89 .char fun n91 =>
  chk (inb 0 n91 = true) <|
  chk (inb 1 n91 = true) <|
  chk (inb 2 n91 = true) <|
  chk (inb 3 n91 = true) <|
  chk (inb 4 n91 = true) <|
  ko h88 x0 11 <|
  nm (hN (sR (sI (sI (sI (sI (sI h88 a89 (0 : Int32).toNatClampNeg ((115 : Int32).toUInt32.toUInt16.toUInt32.toInt32)) a89 (1 : Int32).toNatClampNeg ((116 : Int32).toUInt32.toUInt16.toUInt32.toInt32)) a89 (2 : Int32).toNatClampNeg ((97 : Int32).toUInt32.toUInt16.toUInt32.toInt32)) a89 (3 : Int32).toNatClampNeg ((114 : Int32).toUInt32.toUInt16.toUInt32.toInt32)) a89 (4 : Int32).toNatClampNeg ((116 : Int32).toUInt32.toUInt16.toUInt32.toInt32)) x0 19 (some a89))) fun (a99 : Nat) =>
  nm (nw (sR (sI (sI (sI (sI (sI h88 a89 (0 : Int32).toNatClampNeg ((115 : Int32).toUInt32.toUInt16.toUInt32.toInt32)) a89 (1 : Int32).toNatClampNeg ((116 : Int32).toUInt32.toUInt16.toUInt32.toInt32)) a89 (2 : Int32).toNatClampNeg ((97 : Int32).toUInt32.toUInt16.toUInt32.toInt32)) a89 (3 : Int32).toNatClampNeg ((114 : Int32).toUInt32.toUInt16.toUInt32.toInt32)) a89 (4 : Int32).toNatClampNeg ((116 : Int32).toUInt32.toUInt16.toUInt32.toInt32)) x0 19 (some a89)) (.inr (.char, 4)) 4) fun (h98 : aH) =>
  ka h98 a99 .char fun n101 =>
  chk (inb 0 n101 = true) <|
  chk (inb 1 n101 = true) <|
  chk (inb 2 n101 = true) <|
  chk (inb 3 n101 = true) <|
  ko h98 x0 11 <|
  nm (hN (sR (sI (sI (sI (sI h98 a99 (0 : Int32).toNatClampNeg ((114 : Int32).toUInt32.toUInt16.toUInt32.toInt32)) a99 (1 : Int32).toNatClampNeg ((111 : Int32).toUInt32.toUInt16.toUInt32.toInt32)) a99 (2 : Int32).toNatClampNeg ((111 : Int32).toUInt32.toUInt16.toUInt32.toInt32)) a99 (3 : Int32).toNatClampNeg ((109 : Int32).toUInt32.toUInt16.toUInt32.toInt32)) x0 20 (some a99))) fun (a108 : Nat) =>
  nm (nw (sR (sI (sI (sI (sI h98 a99 (0 : Int32).toNatClampNeg ((114 : Int32).toUInt32.toUInt16.toUInt32.toInt32)) a99 (1 : Int32).toNatClampNeg ((111 : Int32).toUInt32.toUInt16.toUInt32.toInt32)) a99 (2 : Int32).toNatClampNeg ((111 : Int32).toUInt32.toUInt16.toUInt32.toInt32)) a99 (3 : Int32).toNatClampNeg ((109 : Int32).toUInt32.toUInt16.toUInt32.toInt32)) x0 20 (some a99)) (.inr (.char, 2)) 2) fun (h107 : aH) =>
  ka h107 a108 .char fun n110 =>
  chk (inb 0 n110 = true) <|
  chk (inb 1 n110 = true) <|
  ko h107 x0 11 <|
  nm (hN (sR (sI (sI h107 a108 (0 : Int32).toNatClampNeg ((97 : Int32).toUInt32.toUInt16.toUInt32.toInt32)) a108 (1 : Int32).toNatClampNeg ((116 : Int32).toUInt32.toUInt16.toUInt32.toInt32)) x0 21 (some a108))) fun (a115 : Nat) =>
  nm (nw (sR (sI (sI h107 a108 (0 : Int32).toNatClampNeg ((97 : Int32).toUInt32.toUInt16.toUInt32.toInt32)) a108 (1 : Int32).toNatClampNeg ((116 : Int32).toUInt32.toUInt16.toUInt32.toInt32)) x0 21 (some a108)) (.inr (.char, 4)) 4) fun (h114 : aH) =>
  ka h114 a115 .char fun n117 =>
  chk (inb 0 n117 = true) <|
  chk (inb 1 n117 = true) <|
  chk (inb 2 n117 = true) <|
  chk (inb 3 n117 = true) <|
  ko h114 x0 11 <|
  nm (hN (sR (sI (sI (sI (sI h114 a115 (0 : Int32).toNatClampNeg ((98 : Int32).toUInt32.toUInt16.toUInt32.toInt32)) a115 (1 : Int32).toNatClampNeg ((97 : Int32).toUInt32.toUInt16.toUInt32.toInt32)) a115 (2 : Int32).toNatClampNeg ((115 : Int32).toUInt32.toUInt16.toUInt32.toInt32)) a115 (3 : Int32).toNatClampNeg ((101 : Int32).toUInt32.toUInt16.toUInt32.toInt32)) x0 22 (some a115))) fun (a124 : Nat) =>
  nm (nw (sR (sI (sI (sI (sI h114 a115 (0 : Int32).toNatClampNeg ((98 : Int32).toUInt32.toUInt16.toUInt32.toInt32)) a115 (1 : Int32).toNatClampNeg ((97 : Int32).toUInt32.toUInt16.toUInt32.toInt32)) a115 (2 : Int32).toNatClampNeg ((115 : Int32).toUInt32.toUInt16.toUInt32.toInt32)) a115 (3 : Int32).toNatClampNeg ((101 : Int32).toUInt32.toUInt16.toUInt32.toInt32)) x0 22 (some a115)) (.inr (.char, 6)) 6) fun (h123 : aH) =>
  ka h123 a124 .char fun n126 =>
  chk (inb 0 n126 = true) <|
  chk (inb 1 n126 = true) <|
  chk (inb 2 n126 = true) <|
  chk (inb 3 n126 = true) <|
  chk (inb 4 n126 = true) <|
  chk (inb 5 n126 = true) <|
  ko h123 x0 11 <|
  nm (hN (sR (sI (sI (sI (sI (sI (sI h123 a124 (0 : Int32).toNatClampNeg ((108 : Int32).toUInt32.toUInt16.toUInt32.toInt32)) a124 (1 : Int32).toNatClampNeg ((101 : Int32).toUInt32.toUInt16.toUInt32.toInt32)) a124 (2 : Int32).toNatClampNeg ((110 : Int32).toUInt32.toUInt16.toUInt32.toInt32)) a124 (3 : Int32).toNatClampNeg ((103 : Int32).toUInt32.toUInt16.toUInt32.toInt32)) a124 (4 : Int32).toNatClampNeg ((116 : Int32).toUInt32.toUInt16.toUInt32.toInt32)) a124 (5 : Int32).toNatClampNeg ((104 : Int32).toUInt32.toUInt16.toUInt32.toInt32)) x0 23 (some a124))) fun (a135 : Nat) =>
  nm (nw (sR (sI (sI (sI (sI (sI (sI h123 a124 (0 : Int32).toNatClampNeg ((108 : Int32).toUInt32.toUInt16.toUInt32.toInt32)) a124 (1 : Int32).toNatClampNeg ((101 : Int32).toUInt32.toUInt16.toUInt32.toInt32)) a124 (2 : Int32).toNatClampNeg ((110 : Int32).toUInt32.toUInt16.toUInt32.toInt32)) a124 (3 : Int32).toNatClampNeg ((103 : Int32).toUInt32.toUInt16.toUInt32.toInt32)) a124 (4 : Int32).toNatClampNeg ((116 : Int32).toUInt32.toUInt16.toUInt32.toInt32)) a124 (5 : Int32).toNatClampNeg ((104 : Int32).toUInt32.toUInt16.toUInt32.toInt32)) x0 23 (some a124)) (.inr (.char, 5)) 5) fun (h134 : aH) =>
  ka h134 a135 .char fun n137 =>
  chk (inb 0 n137 = true) <|
  chk (inb 1 n137 = true) <|
  chk (inb 2 n137 = true) <|
  chk (inb 3 n137 = true) <|
  chk (inb 4 n137 = true) <|
  ko h134 x0 11 <|
  nm (hN (sR (sI (sI (sI (sI (sI h134 a135 (0 : Int32).toNatClampNeg ((112 : Int32).toUInt32.toUInt16.toUInt32.toInt32)) a135 (1 : Int32).toNatClampNeg ((101 : Int32).toUInt32.toUInt16.toUInt32.toInt32)) a135 (2 : Int32).toNatClampNeg ((114 : Int32).toUInt32.toUInt16.toUInt32.toInt32)) a135 (3 : Int32).toNatClampNeg ((109 : Int32).toUInt32.toUInt16.toUInt32.toInt32)) a135 (4 : Int32).toNatClampNeg ((115 : Int32).toUInt32.toUInt16.toUInt32.toInt32)) x0 24 (some a135))) fun (a145 : Nat) =>
  nm (nw (sR (sI (sI (sI (sI (sI h134 a135 (0 : Int32).toNatClampNeg ((112 : Int32).toUInt32.toUInt16.toUInt32.toInt32)) a135 (1 : Int32).toNatClampNeg ((101 : Int32).toUInt32.toUInt16.toUInt32.toInt32)) a135 (2 : Int32).toNatClampNeg ((114 : Int32).toUInt32.toUInt16.toUInt32.toInt32)) a135 (3 : Int32).toNatClampNeg ((109 : Int32).toUInt32.toUInt16.toUInt32.toInt32)) a135 (4 : Int32).toNatClampNeg ((115 : Int32).toUInt32.toUInt16.toUInt32.toInt32)) x0 24 (some a135)) (.inr (.char, 6)) 6) fun (h144 : aH) =>
  ka h144 a145 .char fun n147 =>
  chk (inb 0 n147 = true) <|
  chk (inb 1 n147 = true) <|
  chk (inb 2 n147 = true) <|
  chk (inb 3 n147 = true) <|
  chk (inb 4 n147 = true) <|
  chk (inb 5 n147 = true) <|
  ko h144 x0 11 <|
  nm (hN (sR (sI (sI (sI (sI (sI (sI h144 a145 (0 : Int32).toNatClampNeg ((110 : Int32).toUInt32.toUInt16.toUInt32.toInt32)) a145 (1 : Int32).toNatClampNeg ((117 : Int32).toUInt32.toUInt16.toUInt32.toInt32)) a145 (2 : Int32).toNatClampNeg ((109 : Int32).toUInt32.toUInt16.toUInt32.toInt32)) a145 (3 : Int32).toNatClampNeg ((98 : Int32).toUInt32.toUInt16.toUInt32.toInt32)) a145 (4 : Int32).toNatClampNeg ((101 : Int32).toUInt32.toUInt16.toUInt32.toInt32)) a145 (5 : Int32).toNatClampNeg ((114 : Int32).toUInt32.toUInt16.toUInt32.toInt32)) x0 25 (some a145))) fun (a156 : Nat) =>
  nm (nw (sR (sI (sI (sI (sI (sI (sI h144 a145 (0 : Int32).toNatClampNeg ((110 : Int32).toUInt32.toUInt16.toUInt32.toInt32)) a145 (1 : Int32).toNatClampNeg ((117 : Int32).toUInt32.toUInt16.toUInt32.toInt32)) a145 (2 : Int32).toNatClampNeg ((109 : Int32).toUInt32.toUInt16.toUInt32.toInt32)) a145 (3 : Int32).toNatClampNeg ((98 : Int32).toUInt32.toUInt16.toUInt32.toInt32)) a145 (4 : Int32).toNatClampNeg ((101 : Int32).toUInt32.toUInt16.toUInt32.toInt32)) a145 (5 : Int32).toNatClampNeg ((114 : Int32).toUInt32.toUInt16.toUInt32.toInt32)) x0 25 (some a145)) (.inr (.char, 3)) 3) fun (h155 : aH) =>
  ka h155 a156 .char fun n158 =>
  chk (inb 0 n158 = true) <|
  chk (inb 1 n158 = true) <|
  chk (inb 2 n158 = true) <|
  ko h155 x0 11 <|
  nm (hN (sR (sI (sI (sI h155 a156 (0 : Int32).toNatClampNeg ((101 : Int32).toUInt32.toUInt16.toUInt32.toInt32)) a156 (1 : Int32).toNatClampNeg ((120 : Int32).toUInt32.toUInt16.toUInt32.toInt32)) a156 (2 : Int32).toNatClampNeg ((112 : Int32).toUInt32.toUInt16.toUInt32.toInt32)) x0 26 (some a156))) fun (a164 : Nat) =>
  nm (nw (sR (sI (sI (sI h155 a156 (0 : Int32).toNatClampNeg ((101 : Int32).toUInt32.toUInt16.toUInt32.toInt32)) a156 (1 : Int32).toNatClampNeg ((120 : Int32).toUInt32.toUInt16.toUInt32.toInt32)) a156 (2 : Int32).toNatClampNeg ((112 : Int32).toUInt32.toUInt16.toUInt32.toInt32)) x0 26 (some a156)) (.inr (.char, 5)) 5) fun (h163 : aH) =>
  ka h163 a164 .char fun n166 =>
  chk (inb 0 n166 = true) <|
  chk (inb 1 n166 = true) <|
  chk (inb 2 n166 = true) <|
  chk (inb 3 n166 = true) <|
  chk (inb 4 n166 = true) <|
  ko h163 x0 11 <|
  nm (hN (sR (sI (sI (sI (sI (sI h163 a164 (0 : Int32).toNatClampNeg ((118 : Int32).toUInt32.toUInt16.toUInt32.toInt32)) a164 (1 : Int32).toNatClampNeg ((97 : Int32).toUInt32.toUInt16.toUInt32.toInt32)) a164 (2 : Int32).toNatClampNeg ((108 : Int32).toUInt32.toUInt16.toUInt32.toInt32)) a164 (3 : Int32).toNatClampNeg ((105 : Int32).toUInt32.toUInt16.toUInt32.toInt32)) a164 (4 : Int32).toNatClampNeg ((100 : Int32).toUInt32.toUInt16.toUInt32.toInt32)) x0 27 (some a164))) fun (a174 : Nat) =>
  nm (nw (sR (sI (sI (sI (sI (sI h163 a164 (0 : Int32).toNatClampNeg ((118 : Int32).toUInt32.toUInt16.toUInt32.toInt32)) a164 (1 : Int32).toNatClampNeg ((97 : Int32).toUInt32.toUInt16.toUInt32.toInt32)) a164 (2 : Int32).toNatClampNeg ((108 : Int32).toUInt32.toUInt16.toUInt32.toInt32)) a164 (3 : Int32).toNatClampNeg ((105 : Int32).toUInt32.toUInt16.toUInt32.toInt32)) a164 (4 : Int32).toNatClampNeg ((100 : Int32).toUInt32.toUInt16.toUInt32.toInt32)) x0 27 (some a164)) (.inr (.char, 4)) 4) fun (h173 : aH) =>
  ka h173 a174 .char fun n176 =>
  chk (inb 0 n176 = true) <|
  chk (inb 1 n176 = true) <|
  chk (inb 2 n176 = true) <|
  chk (inb 3 n176 = true) <|
  ko h173 x0 11 <|
  nm (hN (sR (sI (sI (sI (sI h173 a174 (0 : Int32).toNatClampNeg ((102 : Int32).toUInt32.toUInt16.toUInt32.toInt32)) a174 (1 : Int32).toNatClampNeg ((114 : Int32).toUInt32.toUInt16.toUInt32.toInt32)) a174 (2 : Int32).toNatClampNeg ((111 : Int32).toUInt32.toUInt16.toUInt32.toInt32)) a174 (3 : Int32).toNatClampNeg ((109 : Int32).toUInt32.toUInt16.toUInt32.toInt32)) x0 28 (some a174))) fun (a183 : Nat) =>
  nm (nw (sR (sI (sI (sI (sI h173 a174 (0 : Int32).toNatClampNeg ((102 : Int32).toUInt32.toUInt16.toUInt32.toInt32)) a174 (1 : Int32).toNatClampNeg ((114 : Int32).toUInt32.toUInt16.toUInt32.toInt32)) a174 (2 : Int32).toNatClampNeg ((111 : Int32).toUInt32.toUInt16.toUInt32.toInt32)) a174 (3 : Int32).toNatClampNeg ((109 : Int32).toUInt32.toUInt16.toUInt32.toInt32)) x0 28 (some a174)) (.inr (.char, 4)) 4) fun (h182 : aH) =>
  ka h182 a183 .char fun n185 =>
  chk (inb 0 n185 = true) <|
  chk (inb 1 n185 = true) <|
  chk (inb 2 n185 = true) <|
  chk (inb 3 n185 = true) <|
  ko h182 x0 11 <|
  nm (hN (sR (sI (sI (sI (sI h182 a183 (0 : Int32).toNatClampNeg ((102 : Int32).toUInt32.toUInt16.toUInt32.toInt32)) a183 (1 : Int32).toNatClampNeg ((105 : Int32).toUInt32.toUInt16.toUInt32.toInt32)) a183 (2 : Int32).toNatClampNeg ((116 : Int32).toUInt32.toUInt16.toUInt32.toInt32)) a183 (3 : Int32).toNatClampNeg ((115 : Int32).toUInt32.toUInt16.toUInt32.toInt32)) x0 29 (some a183))) fun (a192 : Nat) =>
  nm (nw (sR (sI (sI (sI (sI h182 a183 (0 : Int32).toNatClampNeg ((102 : Int32).toUInt32.toUInt16.toUInt32.toInt32)) a183 (1 : Int32).toNatClampNeg ((105 : Int32).toUInt32.toUInt16.toUInt32.toInt32)) a183 (2 : Int32).toNatClampNeg ((116 : Int32).toUInt32.toUInt16.toUInt32.toInt32)) a183 (3 : Int32).toNatClampNeg ((115 : Int32).toUInt32.toUInt16.toUInt32.toInt32)) x0 29 (some a183)) (.inr (.char, 2)) 2) fun (h191 : aH) =>
  ka h191 a192 .char fun n194 =>
  chk (inb 0 n194 = true) <|
  chk (inb 1 n194 = true) <|
  ko h191 x0 11 <|
  nm (hN (sR (sI (sI h191 a192 (0 : Int32).toNatClampNeg ((111 : Int32).toUInt32.toUInt16.toUInt32.toInt32)) a192 (1 : Int32).toNatClampNeg ((114 : Int32).toUInt32.toUInt16.toUInt32.toInt32)) x0 30 (some a192))) fun (a199 : Nat) =>
  nm (nw (sR (sI (sI h191 a192 (0 : Int32).toNatClampNeg ((111 : Int32).toUInt32.toUInt16.toUInt32.toInt32)) a192 (1 : Int32).toNatClampNeg ((114 : Int32).toUInt32.toUInt16.toUInt32.toInt32)) x0 30 (some a192)) (.inr (.char, 3)) 3) fun (h198 : aH) =>
  ka h198 a199 .char fun n201 =>
  chk (inb 0 n201 = true) <|
  chk (inb 1 n201 = true) <|
  chk (inb 2 n201 = true) <|
  ko h198 x0 11 <|
  nm (hN (sR (sI (sI (sI h198 a199 (0 : Int32).toNatClampNeg ((97 : Int32).toUInt32.toUInt16.toUInt32.toInt32)) a199 (1 : Int32).toNatClampNeg ((110 : Int32).toUInt32.toUInt16.toUInt32.toInt32)) a199 (2 : Int32).toNatClampNeg ((100 : Int32).toUInt32.toUInt16.toUInt32.toInt32)) x0 31 (some a199))) fun (a207 : Nat) =>
  nm (nw (sR (sI (sI (sI h198 a199 (0 : Int32).toNatClampNeg ((97 : Int32).toUInt32.toUInt16.toUInt32.toInt32)) a199 (1 : Int32).toNatClampNeg ((110 : Int32).toUInt32.toUInt16.toUInt32.toInt32)) a199 (2 : Int32).toNatClampNeg ((100 : Int32).toUInt32.toUInt16.toUInt32.toInt32)) x0 31 (some a199)) (.inr (.char, 3)) 3) fun (h206 : aH) =>
  ka h206 a207 .char fun n209 =>
  chk (inb 0 n209 = true) <|
  chk (inb 1 n209 = true) <|
  chk (inb 2 n209 = true) <|
  ko h206 x0 11 <|
  nm (hN (sR (sI (sI (sI h206 a207 (0 : Int32).toNatClampNeg ((110 : Int32).toUInt32.toUInt16.toUInt32.toInt32)) a207 (1 : Int32).toNatClampNeg ((111 : Int32).toUInt32.toUInt16.toUInt32.toInt32)) a207 (2 : Int32).toNatClampNeg ((116 : Int32).toUInt32.toUInt16.toUInt32.toInt32)) x0 32 (some a207))) fun (a215 : Nat) =>
  nm (nw (sR (sI (sI (sI h206 a207 (0 : Int32).toNatClampNeg ((110 : Int32).toUInt32.toUInt16.toUInt32.toInt32)) a207 (1 : Int32).toNatClampNeg ((111 : Int32).toUInt32.toUInt16.toUInt32.toInt32)) a207 (2 : Int32).toNatClampNeg ((116 : Int32).toUInt32.toUInt16.toUInt32.toInt32)) x0 32 (some a207)) (.inr (.char, 3)) 3) fun (h214 : aH) =>
  ka h214 a215 .char fun n217 =>
  chk (inb 0 n217 = true) <|
  chk (inb 1 n217 = true) <|
  chk (inb 2 n217 = true) <|
  ko h214 x0 11 <|
  nm (hN (sR (sI (sI (sI h214 a215 (0 : Int32).toNatClampNeg ((97 : Int32).toUInt32.toUInt16.toUInt32.toInt32)) a215 (1 : Int32).toNatClampNeg ((108 : Int32).toUInt32.toUInt16.toUInt32.toInt32)) a215 (2 : Int32).toNatClampNeg ((108 : Int32).toUInt32.toUInt16.toUInt32.toInt32)) x0 33 (some a215))) fun (a223 : Nat) =>
  nm (nw (sR (sI (sI (sI h214 a215 (0 : Int32).toNatClampNeg ((97 : Int32).toUInt32.toUInt16.toUInt32.toInt32)) a215 (1 : Int32).toNatClampNeg ((108 : Int32).toUInt32.toUInt16.toUInt32.toInt32)) a215 (2 : Int32).toNatClampNeg ((108 : Int32).toUInt32.toUInt16.toUInt32.toInt32)) x0 33 (some a215)) (.inr (.char, 3)) 3) fun (h222 : aH) =>
  ka h222 a223 .char fun n225 =>
  chk (inb 0 n225 = true) <|
  chk (inb 1 n225 = true) <|
  chk (inb 2 n225 = true) <|
  ko h222 x0 11 <|
  nm (hN (sR (sI (sI (sI h222 a223 (0 : Int32).toNatClampNeg ((109 : Int32).toUInt32.toUInt16.toUInt32.toInt32)) a223 (1 : Int32).toNatClampNeg ((105 : Int32).toUInt32.toUInt16.toUInt32.toInt32)) a223 (2 : Int32).toNatClampNeg ((110 : Int32).toUInt32.toUInt16.toUInt32.toInt32)) x0 34 (some a223))) fun (a231 : Nat) =>
  nm (nw (sR (sI (sI (sI h222 a223 (0 : Int32).toNatClampNeg ((109 : Int32).toUInt32.toUInt16.toUInt32.toInt32)) a223 (1 : Int32).toNatClampNeg ((105 : Int32).toUInt32.toUInt16.toUInt32.toInt32)) a223 (2 : Int32).toNatClampNeg ((110 : Int32).toUInt32.toUInt16.toUInt32.toInt32)) x0 34 (some a223)) (.inr (.char, 3)) 3) fun (h230 : aH) =>
  ka h230 a231 .char fun n233 =>
  chk (inb 0 n233 = true) <|
  chk (inb 1 n233 = true) <|
  chk (inb 2 n233 = true) <|
  ko h230 x0 11 <|
  nm (hN (sR (sI (sI (sI h230 a231 (0 : Int32).toNatClampNeg ((109 : Int32).toUInt32.toUInt16.toUInt32.toInt32)) a231 (1 : Int32).toNatClampNeg ((97 : Int32).toUInt32.toUInt16.toUInt32.toInt32)) a231 (2 : Int32).toNatClampNeg ((120 : Int32).toUInt32.toUInt16.toUInt32.toInt32)) x0 35 (some a231))) fun (a239 : Nat) =>
  nm (nw (sR (sI (sI (sI h230 a231 (0 : Int32).toNatClampNeg ((109 : Int32).toUInt32.toUInt16.toUInt32.toInt32)) a231 (1 : Int32).toNatClampNeg ((97 : Int32).toUInt32.toUInt16.toUInt32.toInt32)) a231 (2 : Int32).toNatClampNeg ((120 : Int32).toUInt32.toUInt16.toUInt32.toInt32)) x0 35 (some a231)) (.inr (.int, 6)) 6) fun (h238 : aH) =>
  ko h238 x0 11 <|
  nm (hN (sR h238 x0 37 (some a239))) fun (a242 : Nat) =>
  nm (nw (sR h238 x0 37 (some a239)) (.inr (.long, 8)) 8) fun (h241 : aH) =>
  ko h241 x0 11 <|
  nm (hN (sR h241 x0 38 (some a242))) fun (a245 : Nat) =>
  nm (nw (sR h241 x0 38 (some a242)) (.inr (.int, 8)) 8) fun (h244 : aH) =>
  ko h244 x0 11 <|
  nm (hN (sR h244 x0 39 (some a245))) fun (a248 : Nat) =>
  nm (nw (sR h244 x0 39 (some a245)) (.inr (.int, 6)) 6) fun (h247 : aH) =>
  ka h247 a248 .int fun n250 =>
  chk (inb 0 n250 = true) <|
  chk (inb 1 n250 = true) <|
  chk (inb 2 n250 = true) <|
  chk (inb 3 n250 = true) <|
  chk (inb 4 n250 = true) <|
  chk (inb 5 n250 = true) <|
  ko h247 x0 11 <|
  nm (hN (sR (sI (sI (sI (sI (sI (sI h247 a248 (0 : Int32).toNatClampNeg (-1)) a248 (1 : Int32).toNatClampNeg (-1)) a248 (2 : Int32).toNatClampNeg (-1)) a248 (3 : Int32).toNatClampNeg (-1)) a248 (4 : Int32).toNatClampNeg (-1)) a248 (5 : Int32).toNatClampNeg (-1)) x0 40 (some a248))) fun (a259 : Nat) =>
  nm (nw (sR (sI (sI (sI (sI (sI (sI h247 a248 (0 : Int32).toNatClampNeg (-1)) a248 (1 : Int32).toNatClampNeg (-1)) a248 (2 : Int32).toNatClampNeg (-1)) a248 (3 : Int32).toNatClampNeg (-1)) a248 (4 : Int32).toNatClampNeg (-1)) a248 (5 : Int32).toNatClampNeg (-1)) x0 40 (some a248)) (.inr (.int, 6)) 6) fun (h258 : aH) =>
  ko h258 x0 11 <|
  nm (hN (sR h258 x0 41 (some a259))) fun (a262 : Nat) =>
  nm (nw (sR h258 x0 41 (some a259)) (.inr (.int, 3200)) 3200) fun (h261 : aH) =>
  ko h261 x0 11 <|
  nm (hN (sR h261 x0 42 (some a262))) fun (a265 : Nat) =>
  nm (nw (sR h261 x0 42 (some a262)) (.inr (.int, 1498)) 1498) fun (h264 : aH) =>
  ko h264 x0 11 <|
  nm (hN (sR h264 x0 47 (some a265))) fun (a268 : Nat) =>
  nm (nw (sR h264 x0 47 (some a265)) (.inr (.int, 66)) 66) fun (h267 : aH) =>
  ko h267 x0 11 <|
  nm (hN (sR h267 x0 56 (some a268))) fun (a271 : Nat) =>
  nm (nw (sR h267 x0 56 (some a268)) (.inr (.int, 32)) 32) fun (h270 : aH) =>
  ko h270 x0 11 <|
  nm (hN (sR h270 x0 59 (some a271))) fun (a274 : Nat) =>
  nm (nw (sR h270 x0 59 (some a271)) (.inr (.boolean, 4096)) 4096) fun (h273 : aH) =>
  ko h273 x0 11 <|
  nm (hN (sR h273 x0 60 (some a274))) fun (a277 : Nat) =>
  nm (nw (sR h273 x0 60 (some a274)) (.inr (.int, 29960)) 29960) fun (h276 : aH) =>
  ko h276 x0 11 <|
  nm (hN (sL (sR h276 x0 62 (some a277)) x0 65 1)) fun (a280 : Nat) =>
  nm (nw (sL (sR h276 x0 62 (some a277)) x0 65 1) (.inr (.char, 5)) 5) fun (h279 : aH) =>
  ka h279 a280 .char fun n282 =>
  chk (inb 0 n282 = true) <|
  chk (inb 1 n282 = true) <|
  chk (inb 2 n282 = true) <|
  chk (inb 3 n282 = true) <|
  chk (inb 4 n282 = true) <|
  ko h279 x0 11 <|
  nm (hN (sR (sI (sI (sI (sI (sI h279 a280 (0 : Int32).toNatClampNeg ((102 : Int32).toUInt32.toUInt16.toUInt32.toInt32)) a280 (1 : Int32).toNatClampNeg ((105 : Int32).toUInt32.toUInt16.toUInt32.toInt32)) a280 (2 : Int32).toNatClampNeg ((114 : Int32).toUInt32.toUInt16.toUInt32.toInt32)) a280 (3 : Int32).toNatClampNeg ((115 : Int32).toUInt32.toUInt16.toUInt32.toInt32)) a280 (4 : Int32).toNatClampNeg ((116 : Int32).toUInt32.toUInt16.toUInt32.toInt32)) x0 66 (some a280))) fun (a290 : Nat) =>
  nm (nw (sR (sI (sI (sI (sI (sI h279 a280 (0 : Int32).toNatClampNeg ((102 : Int32).toUInt32.toUInt16.toUInt32.toInt32)) a280 (1 : Int32).toNatClampNeg ((105 : Int32).toUInt32.toUInt16.toUInt32.toInt32)) a280 (2 : Int32).toNatClampNeg ((114 : Int32).toUInt32.toUInt16.toUInt32.toInt32)) a280 (3 : Int32).toNatClampNeg ((115 : Int32).toUInt32.toUInt16.toUInt32.toInt32)) a280 (4 : Int32).toNatClampNeg ((116 : Int32).toUInt32.toUInt16.toUInt32.toInt32)) x0 66 (some a280)) (.inr (.char, 4)) 4) fun (h289 : aH) =>
  ka h289 a290 .char fun n292 =>
  chk (inb 0 n292 = true) <|
  chk (inb 1 n292 = true) <|
  chk (inb 2 n292 = true) <|
  chk (inb 3 n292 = true) <|
  ko h289 x0 11 <|
  nm (hN (sR (sI (sI (sI (sI h289 a290 (0 : Int32).toNatClampNeg ((108 : Int32).toUInt32.toUInt16.toUInt32.toInt32)) a290 (1 : Int32).toNatClampNeg ((97 : Int32).toUInt32.toUInt16.toUInt32.toInt32)) a290 (2 : Int32).toNatClampNeg ((115 : Int32).toUInt32.toUInt16.toUInt32.toInt32)) a290 (3 : Int32).toNatClampNeg ((116 : Int32).toUInt32.toUInt16.toUInt32.toInt32)) x0 67 (some a290))) fun (a299 : Nat) =>
  nm (nw (sR (sI (sI (sI (sI h289 a290 (0 : Int32).toNatClampNeg ((108 : Int32).toUInt32.toUInt16.toUInt32.toInt32)) a290 (1 : Int32).toNatClampNeg ((97 : Int32).toUInt32.toUInt16.toUInt32.toInt32)) a290 (2 : Int32).toNatClampNeg ((115 : Int32).toUInt32.toUInt16.toUInt32.toInt32)) a290 (3 : Int32).toNatClampNeg ((116 : Int32).toUInt32.toUInt16.toUInt32.toInt32)) x0 67 (some a290)) (.inr (.char, 5)) 5) fun (h298 : aH) =>
  ka h298 a299 .char fun n301 =>
  chk (inb 0 n301 = true) <|
  chk (inb 1 n301 = true) <|
  chk (inb 2 n301 = true) <|
  chk (inb 3 n301 = true) <|
  chk (inb 4 n301 = true) <|
  ko h298 x0 11 <|
  nm (hN (sR (sI (sI (sI (sI (sI h298 a299 (0 : Int32).toNatClampNeg ((111 : Int32).toUInt32.toUInt16.toUInt32.toInt32)) a299 (1 : Int32).toNatClampNeg ((102 : Int32).toUInt32.toUInt16.toUInt32.toInt32)) a299 (2 : Int32).toNatClampNeg ((116 : Int32).toUInt32.toUInt16.toUInt32.toInt32)) a299 (3 : Int32).toNatClampNeg ((101 : Int32).toUInt32.toUInt16.toUInt32.toInt32)) a299 (4 : Int32).toNatClampNeg ((110 : Int32).toUInt32.toUInt16.toUInt32.toInt32)) x0 68 (some a299))) fun (a309 : Nat) =>
  nm (nw (sR (sI (sI (sI (sI (sI h298 a299 (0 : Int32).toNatClampNeg ((111 : Int32).toUInt32.toUInt16.toUInt32.toInt32)) a299 (1 : Int32).toNatClampNeg ((102 : Int32).toUInt32.toUInt16.toUInt32.toInt32)) a299 (2 : Int32).toNatClampNeg ((116 : Int32).toUInt32.toUInt16.toUInt32.toInt32)) a299 (3 : Int32).toNatClampNeg ((101 : Int32).toUInt32.toUInt16.toUInt32.toInt32)) a299 (4 : Int32).toNatClampNeg ((110 : Int32).toUInt32.toUInt16.toUInt32.toInt32)) x0 68 (some a299)) (.inr (.char, 5)) 5) fun (h308 : aH) =>
  ka h308 a309 .char fun n311 =>
  chk (inb 0 n311 = true) <|
  chk (inb 1 n311 = true) <|
  chk (inb 2 n311 = true) <|
  chk (inb 3 n311 = true) <|
  chk (inb 4 n311 = true) <|
  ko h308 x0 11 <|
  nm (hN (sR (sI (sI (sI (sI (sI h308 a309 (0 : Int32).toNatClampNeg ((116 : Int32).toUInt32.toUInt16.toUInt32.toInt32)) a309 (1 : Int32).toNatClampNeg ((111 : Int32).toUInt32.toUInt16.toUInt32.toInt32)) a309 (2 : Int32).toNatClampNeg ((116 : Int32).toUInt32.toUInt16.toUInt32.toInt32)) a309 (3 : Int32).toNatClampNeg ((97 : Int32).toUInt32.toUInt16.toUInt32.toInt32)) a309 (4 : Int32).toNatClampNeg ((108 : Int32).toUInt32.toUInt16.toUInt32.toInt32)) x0 69 (some a309))) fun (a319 : Nat) =>
  nm (nw (sR (sI (sI (sI (sI (sI h308 a309 (0 : Int32).toNatClampNeg ((116 : Int32).toUInt32.toUInt16.toUInt32.toInt32)) a309 (1 : Int32).toNatClampNeg ((111 : Int32).toUInt32.toUInt16.toUInt32.toInt32)) a309 (2 : Int32).toNatClampNeg ((116 : Int32).toUInt32.toUInt16.toUInt32.toInt32)) a309 (3 : Int32).toNatClampNeg ((97 : Int32).toUInt32.toUInt16.toUInt32.toInt32)) a309 (4 : Int32).toNatClampNeg ((108 : Int32).toUInt32.toUInt16.toUInt32.toInt32)) x0 69 (some a309)) (.inr (.char, 4)) 4) fun (h318 : aH) =>
  ka h318 a319 .char fun n321 =>
  chk (inb 0 n321 = true) <|
  chk (inb 1 n321 = true) <|
  chk (inb 2 n321 = true) <|
  chk (inb 3 n321 = true) <|
  ko h318 x0 11 <|
  nm (hN (sR (sI (sI (sI (sI h318 a319 (0 : Int32).toNatClampNeg ((109 : Int32).toUInt32.toUInt16.toUInt32.toInt32)) a319 (1 : Int32).toNatClampNeg ((111 : Int32).toUInt32.toUInt16.toUInt32.toInt32)) a319 (2 : Int32).toNatClampNeg ((115 : Int32).toUInt32.toUInt16.toUInt32.toInt32)) a319 (3 : Int32).toNatClampNeg ((116 : Int32).toUInt32.toUInt16.toUInt32.toInt32)) x0 70 (some a319))) fun (a328 : Nat) =>
  nm (nw (sR (sI (sI (sI (sI h318 a319 (0 : Int32).toNatClampNeg ((109 : Int32).toUInt32.toUInt16.toUInt32.toInt32)) a319 (1 : Int32).toNatClampNeg ((111 : Int32).toUInt32.toUInt16.toUInt32.toInt32)) a319 (2 : Int32).toNatClampNeg ((115 : Int32).toUInt32.toUInt16.toUInt32.toInt32)) a319 (3 : Int32).toNatClampNeg ((116 : Int32).toUInt32.toUInt16.toUInt32.toInt32)) x0 70 (some a319)) (.inr (.char, 5)) 5) fun (h327 : aH) =>
  ka h327 a328 .char fun n330 =>
  chk (inb 0 n330 = true) <|
  chk (inb 1 n330 = true) <|
  chk (inb 2 n330 = true) <|
  chk (inb 3 n330 = true) <|
  chk (inb 4 n330 = true) <|
  ko h327 x0 11 <|
  nm (hN (sR (sI (sI (sI (sI (sI h327 a328 (0 : Int32).toNatClampNeg ((108 : Int32).toUInt32.toUInt16.toUInt32.toInt32)) a328 (1 : Int32).toNatClampNeg ((101 : Int32).toUInt32.toUInt16.toUInt32.toInt32)) a328 (2 : Int32).toNatClampNeg ((97 : Int32).toUInt32.toUInt16.toUInt32.toInt32)) a328 (3 : Int32).toNatClampNeg ((115 : Int32).toUInt32.toUInt16.toUInt32.toInt32)) a328 (4 : Int32).toNatClampNeg ((116 : Int32).toUInt32.toUInt16.toUInt32.toInt32)) x0 71 (some a328))) fun (a338 : Nat) =>
  nm (nw (sR (sI (sI (sI (sI (sI h327 a328 (0 : Int32).toNatClampNeg ((108 : Int32).toUInt32.toUInt16.toUInt32.toInt32)) a328 (1 : Int32).toNatClampNeg ((101 : Int32).toUInt32.toUInt16.toUInt32.toInt32)) a328 (2 : Int32).toNatClampNeg ((97 : Int32).toUInt32.toUInt16.toUInt32.toInt32)) a328 (3 : Int32).toNatClampNeg ((115 : Int32).toUInt32.toUInt16.toUInt32.toInt32)) a328 (4 : Int32).toNatClampNeg ((116 : Int32).toUInt32.toUInt16.toUInt32.toInt32)) x0 71 (some a328)) (.inr (.char, 3)) 3) fun (h337 : aH) =>
  ka h337 a338 .char fun n340 =>
  chk (inb 0 n340 = true) <|
  chk (inb 1 n340 = true) <|
  chk (inb 2 n340 = true) <|
  ko h337 x0 11 <|
  nm (hN (sR (sI (sI (sI h337 a338 (0 : Int32).toNatClampNeg ((110 : Int32).toUInt32.toUInt16.toUInt32.toInt32)) a338 (1 : Int32).toNatClampNeg ((111 : Int32).toUInt32.toUInt16.toUInt32.toInt32)) a338 (2 : Int32).toNatClampNeg ((116 : Int32).toUInt32.toUInt16.toUInt32.toInt32)) x0 72 (some a338))) fun (a346 : Nat) =>
  nm (nw (sR (sI (sI (sI h337 a338 (0 : Int32).toNatClampNeg ((110 : Int32).toUInt32.toUInt16.toUInt32.toInt32)) a338 (1 : Int32).toNatClampNeg ((111 : Int32).toUInt32.toUInt16.toUInt32.toInt32)) a338 (2 : Int32).toNatClampNeg ((116 : Int32).toUInt32.toUInt16.toUInt32.toInt32)) x0 72 (some a338)) (.inr (.char, 3)) 3) fun (h345 : aH) =>
  ka h345 a346 .char fun n348 =>
  chk (inb 0 n348 = true) <|
  chk (inb 1 n348 = true) <|
  chk (inb 2 n348 = true) <|
  ko h345 x0 11 <|
  nm (hN (sR (sI (sI (sI h345 a346 (0 : Int32).toNatClampNeg ((97 : Int32).toUInt32.toUInt16.toUInt32.toInt32)) a346 (1 : Int32).toNatClampNeg ((110 : Int32).toUInt32.toUInt16.toUInt32.toInt32)) a346 (2 : Int32).toNatClampNeg ((100 : Int32).toUInt32.toUInt16.toUInt32.toInt32)) x0 73 (some a346))) fun (a354 : Nat) =>
  nm (nw (sR (sI (sI (sI h345 a346 (0 : Int32).toNatClampNeg ((97 : Int32).toUInt32.toUInt16.toUInt32.toInt32)) a346 (1 : Int32).toNatClampNeg ((110 : Int32).toUInt32.toUInt16.toUInt32.toInt32)) a346 (2 : Int32).toNatClampNeg ((100 : Int32).toUInt32.toUInt16.toUInt32.toInt32)) x0 73 (some a346)) (.inr (.char, 2)) 2) fun (h353 : aH) =>
  ka h353 a354 .char fun n356 =>
  chk (inb 0 n356 = true) <|
  chk (inb 1 n356 = true) <|
  ko h353 x0 11 <|
  nm (hN (sR (sI (sI h353 a354 (0 : Int32).toNatClampNeg ((111 : Int32).toUInt32.toUInt16.toUInt32.toInt32)) a354 (1 : Int32).toNatClampNeg ((114 : Int32).toUInt32.toUInt16.toUInt32.toInt32)) x0 74 (some a354))) fun (a361 : Nat) =>
  nm (nw (sR (sI (sI h353 a354 (0 : Int32).toNatClampNeg ((111 : Int32).toUInt32.toUInt16.toUInt32.toInt32)) a354 (1 : Int32).toNatClampNeg ((114 : Int32).toUInt32.toUInt16.toUInt32.toInt32)) x0 74 (some a354)) (.inr (.char, 3)) 3) fun (h360 : aH) =>
  ka h360 a361 .char fun n363 =>
  chk (inb 0 n363 = true) <|
  chk (inb 1 n363 = true) <|
  chk (inb 2 n363 = true) <|
  ko h360 x0 11 <|
  nm (hN (sR (sI (sI (sI h360 a361 (0 : Int32).toNatClampNeg ((97 : Int32).toUInt32.toUInt16.toUInt32.toInt32)) a361 (1 : Int32).toNatClampNeg ((108 : Int32).toUInt32.toUInt16.toUInt32.toInt32)) a361 (2 : Int32).toNatClampNeg ((108 : Int32).toUInt32.toUInt16.toUInt32.toInt32)) x0 75 (some a361))) fun (a369 : Nat) =>
  nm (nw (sR (sI (sI (sI h360 a361 (0 : Int32).toNatClampNeg ((97 : Int32).toUInt32.toUInt16.toUInt32.toInt32)) a361 (1 : Int32).toNatClampNeg ((108 : Int32).toUInt32.toUInt16.toUInt32.toInt32)) a361 (2 : Int32).toNatClampNeg ((108 : Int32).toUInt32.toUInt16.toUInt32.toInt32)) x0 75 (some a361)) (.inr (.char, 3)) 3) fun (h368 : aH) =>
  ka h368 a369 .char fun n371 =>
  chk (inb 0 n371 = true) <|
  chk (inb 1 n371 = true) <|
  chk (inb 2 n371 = true) <|
  ko h368 x0 11 <|
  nm (hN (sR (sI (sI (sI h368 a369 (0 : Int32).toNatClampNeg ((109 : Int32).toUInt32.toUInt16.toUInt32.toInt32)) a369 (1 : Int32).toNatClampNeg ((105 : Int32).toUInt32.toUInt16.toUInt32.toInt32)) a369 (2 : Int32).toNatClampNeg ((110 : Int32).toUInt32.toUInt16.toUInt32.toInt32)) x0 76 (some a369))) fun (a377 : Nat) =>
  nm (nw (sR (sI (sI (sI h368 a369 (0 : Int32).toNatClampNeg ((109 : Int32).toUInt32.toUInt16.toUInt32.toInt32)) a369 (1 : Int32).toNatClampNeg ((105 : Int32).toUInt32.toUInt16.toUInt32.toInt32)) a369 (2 : Int32).toNatClampNeg ((110 : Int32).toUInt32.toUInt16.toUInt32.toInt32)) x0 76 (some a369)) (.inr (.char, 3)) 3) fun (h376 : aH) =>
  ka h376 a377 .char fun n379 =>
  chk (inb 0 n379 = true) <|
  chk (inb 1 n379 = true) <|
  chk (inb 2 n379 = true) <|
  ko h376 x0 11 <|
  nm (hN (sR (sI (sI (sI h376 a377 (0 : Int32).toNatClampNeg ((109 : Int32).toUInt32.toUInt16.toUInt32.toInt32)) a377 (1 : Int32).toNatClampNeg ((97 : Int32).toUInt32.toUInt16.toUInt32.toInt32)) a377 (2 : Int32).toNatClampNeg ((120 : Int32).toUInt32.toUInt16.toUInt32.toInt32)) x0 77 (some a377))) fun (a385 : Nat) =>
  nm (nw (sR (sI (sI (sI h376 a377 (0 : Int32).toNatClampNeg ((109 : Int32).toUInt32.toUInt16.toUInt32.toInt32)) a377 (1 : Int32).toNatClampNeg ((97 : Int32).toUInt32.toUInt16.toUInt32.toInt32)) a377 (2 : Int32).toNatClampNeg ((120 : Int32).toUInt32.toUInt16.toUInt32.toInt32)) x0 77 (some a377)) (.inr (.char, 4)) 4) fun (h384 : aH) =>
  ka h384 a385 .char fun n387 =>
  chk (inb 0 n387 = true) <|
  chk (inb 1 n387 = true) <|
  chk (inb 2 n387 = true) <|
  chk (inb 3 n387 = true) <|
  ko h384 x0 11 <|
  nm (hN (sR (sI (sI (sI (sI h384 a385 (0 : Int32).toNatClampNeg ((110 : Int32).toUInt32.toUInt16.toUInt32.toInt32)) a385 (1 : Int32).toNatClampNeg ((101 : Int32).toUInt32.toUInt16.toUInt32.toInt32)) a385 (2 : Int32).toNatClampNeg ((101 : Int32).toUInt32.toUInt16.toUInt32.toInt32)) a385 (3 : Int32).toNatClampNeg ((100 : Int32).toUInt32.toUInt16.toUInt32.toInt32)) x0 78 (some a385))) fun (a394 : Nat) =>
  nm (nw (sR (sI (sI (sI (sI h384 a385 (0 : Int32).toNatClampNeg ((110 : Int32).toUInt32.toUInt16.toUInt32.toInt32)) a385 (1 : Int32).toNatClampNeg ((101 : Int32).toUInt32.toUInt16.toUInt32.toInt32)) a385 (2 : Int32).toNatClampNeg ((101 : Int32).toUInt32.toUInt16.toUInt32.toInt32)) a385 (3 : Int32).toNatClampNeg ((100 : Int32).toUInt32.toUInt16.toUInt32.toInt32)) x0 78 (some a385)) (.inr (.char, 5)) 5) fun (h393 : aH) =>
  ka h393 a394 .char fun n396 =>
  chk (inb 0 n396 = true) <|
  chk (inb 1 n396 = true) <|
  chk (inb 2 n396 = true) <|
  chk (inb 3 n396 = true) <|
  chk (inb 4 n396 = true) <|
  ko h393 x0 11 <|
  nm (hN (sR (sI (sI (sI (sI (sI h393 a394 (0 : Int32).toNatClampNeg ((115 : Int32).toUInt32.toUInt16.toUInt32.toInt32)) a394 (1 : Int32).toNatClampNeg ((116 : Int32).toUInt32.toUInt16.toUInt32.toInt32)) a394 (2 : Int32).toNatClampNeg ((97 : Int32).toUInt32.toUInt16.toUInt32.toInt32)) a394 (3 : Int32).toNatClampNeg ((114 : Int32).toUInt32.toUInt16.toUInt32.toInt32)) a394 (4 : Int32).toNatClampNeg ((116 : Int32).toUInt32.toUInt16.toUInt32.toInt32)) x0 79 (some a394))) fun (a404 : Nat) =>
  nm (nw (sR (sI (sI (sI (sI (sI h393 a394 (0 : Int32).toNatClampNeg ((115 : Int32).toUInt32.toUInt16.toUInt32.toInt32)) a394 (1 : Int32).toNatClampNeg ((116 : Int32).toUInt32.toUInt16.toUInt32.toInt32)) a394 (2 : Int32).toNatClampNeg ((97 : Int32).toUInt32.toUInt16.toUInt32.toInt32)) a394 (3 : Int32).toNatClampNeg ((114 : Int32).toUInt32.toUInt16.toUInt32.toInt32)) a394 (4 : Int32).toNatClampNeg ((116 : Int32).toUInt32.toUInt16.toUInt32.toInt32)) x0 79 (some a394)) (.inr (.char, 4)) 4) fun (h403 : aH) =>
  ka h403 a404 .char fun n406 =>
  chk (inb 0 n406 = true) <|
  chk (inb 1 n406 = true) <|
  chk (inb 2 n406 = true) <|
  chk (inb 3 n406 = true) <|
  ko h403 x0 11 <|
  nm (hN (sR (sI (sI (sI (sI h403 a404 (0 : Int32).toNatClampNeg ((114 : Int32).toUInt32.toUInt16.toUInt32.toInt32)) a404 (1 : Int32).toNatClampNeg ((111 : Int32).toUInt32.toUInt16.toUInt32.toInt32)) a404 (2 : Int32).toNatClampNeg ((111 : Int32).toUInt32.toUInt16.toUInt32.toInt32)) a404 (3 : Int32).toNatClampNeg ((109 : Int32).toUInt32.toUInt16.toUInt32.toInt32)) x0 80 (some a404))) fun (a413 : Nat) =>
  nm (nw (sR (sI (sI (sI (sI h403 a404 (0 : Int32).toNatClampNeg ((114 : Int32).toUInt32.toUInt16.toUInt32.toInt32)) a404 (1 : Int32).toNatClampNeg ((111 : Int32).toUInt32.toUInt16.toUInt32.toInt32)) a404 (2 : Int32).toNatClampNeg ((111 : Int32).toUInt32.toUInt16.toUInt32.toInt32)) a404 (3 : Int32).toNatClampNeg ((109 : Int32).toUInt32.toUInt16.toUInt32.toInt32)) x0 80 (some a404)) (.inr (.char, 2)) 2) fun (h412 : aH) =>
  ka h412 a413 .char fun n415 =>
  chk (inb 0 n415 = true) <|
  chk (inb 1 n415 = true) <|
  ko h412 x0 11 <|
  nm (hN (sR (sI (sI h412 a413 (0 : Int32).toNatClampNeg ((97 : Int32).toUInt32.toUInt16.toUInt32.toInt32)) a413 (1 : Int32).toNatClampNeg ((116 : Int32).toUInt32.toUInt16.toUInt32.toInt32)) x0 81 (some a413))) fun (a420 : Nat) =>
  nm (nw (sR (sI (sI h412 a413 (0 : Int32).toNatClampNeg ((97 : Int32).toUInt32.toUInt16.toUInt32.toInt32)) a413 (1 : Int32).toNatClampNeg ((116 : Int32).toUInt32.toUInt16.toUInt32.toInt32)) x0 81 (some a413)) (.inr (.char, 4)) 4) fun (h419 : aH) =>
  ka h419 a420 .char fun n422 =>
  chk (inb 0 n422 = true) <|
  chk (inb 1 n422 = true) <|
  chk (inb 2 n422 = true) <|
  chk (inb 3 n422 = true) <|
  ko h419 x0 11 <|
  nm (hN (sR (sI (sI (sI (sI h419 a420 (0 : Int32).toNatClampNeg ((98 : Int32).toUInt32.toUInt16.toUInt32.toInt32)) a420 (1 : Int32).toNatClampNeg ((97 : Int32).toUInt32.toUInt16.toUInt32.toInt32)) a420 (2 : Int32).toNatClampNeg ((115 : Int32).toUInt32.toUInt16.toUInt32.toInt32)) a420 (3 : Int32).toNatClampNeg ((101 : Int32).toUInt32.toUInt16.toUInt32.toInt32)) x0 82 (some a420))) fun (a429 : Nat) =>
  nm (nw (sR (sI (sI (sI (sI h419 a420 (0 : Int32).toNatClampNeg ((98 : Int32).toUInt32.toUInt16.toUInt32.toInt32)) a420 (1 : Int32).toNatClampNeg ((97 : Int32).toUInt32.toUInt16.toUInt32.toInt32)) a420 (2 : Int32).toNatClampNeg ((115 : Int32).toUInt32.toUInt16.toUInt32.toInt32)) a420 (3 : Int32).toNatClampNeg ((101 : Int32).toUInt32.toUInt16.toUInt32.toInt32)) x0 82 (some a420)) (.inr (.char, 6)) 6) fun (h428 : aH) =>
  ka h428 a429 .char fun n431 =>
  chk (inb 0 n431 = true) <|
  chk (inb 1 n431 = true) <|
  chk (inb 2 n431 = true) <|
  chk (inb 3 n431 = true) <|
  chk (inb 4 n431 = true) <|
  chk (inb 5 n431 = true) <|
  ko h428 x0 11 <|
  nm (hN (sR (sI (sI (sI (sI (sI (sI h428 a429 (0 : Int32).toNatClampNeg ((108 : Int32).toUInt32.toUInt16.toUInt32.toInt32)) a429 (1 : Int32).toNatClampNeg ((101 : Int32).toUInt32.toUInt16.toUInt32.toInt32)) a429 (2 : Int32).toNatClampNeg ((110 : Int32).toUInt32.toUInt16.toUInt32.toInt32)) a429 (3 : Int32).toNatClampNeg ((103 : Int32).toUInt32.toUInt16.toUInt32.toInt32)) a429 (4 : Int32).toNatClampNeg ((116 : Int32).toUInt32.toUInt16.toUInt32.toInt32)) a429 (5 : Int32).toNatClampNeg ((104 : Int32).toUInt32.toUInt16.toUInt32.toInt32)) x0 83 (some a429))) fun (a440 : Nat) =>
  nm (nw (sR (sI (sI (sI (sI (sI (sI h428 a429 (0 : Int32).toNatClampNeg ((108 : Int32).toUInt32.toUInt16.toUInt32.toInt32)) a429 (1 : Int32).toNatClampNeg ((101 : Int32).toUInt32.toUInt16.toUInt32.toInt32)) a429 (2 : Int32).toNatClampNeg ((110 : Int32).toUInt32.toUInt16.toUInt32.toInt32)) a429 (3 : Int32).toNatClampNeg ((103 : Int32).toUInt32.toUInt16.toUInt32.toInt32)) a429 (4 : Int32).toNatClampNeg ((116 : Int32).toUInt32.toUInt16.toUInt32.toInt32)) a429 (5 : Int32).toNatClampNeg ((104 : Int32).toUInt32.toUInt16.toUInt32.toInt32)) x0 83 (some a429)) (.inr (.char, 5)) 5) fun (h439 : aH) =>
  ka h439 a440 .char fun n442 =>
  chk (inb 0 n442 = true) <|
  chk (inb 1 n442 = true) <|
  chk (inb 2 n442 = true) <|
  chk (inb 3 n442 = true) <|
  chk (inb 4 n442 = true) <|
  ko h439 x0 11 <|
  nm (hN (sR (sI (sI (sI (sI (sI h439 a440 (0 : Int32).toNatClampNeg ((112 : Int32).toUInt32.toUInt16.toUInt32.toInt32)) a440 (1 : Int32).toNatClampNeg ((101 : Int32).toUInt32.toUInt16.toUInt32.toInt32)) a440 (2 : Int32).toNatClampNeg ((114 : Int32).toUInt32.toUInt16.toUInt32.toInt32)) a440 (3 : Int32).toNatClampNeg ((109 : Int32).toUInt32.toUInt16.toUInt32.toInt32)) a440 (4 : Int32).toNatClampNeg ((115 : Int32).toUInt32.toUInt16.toUInt32.toInt32)) x0 84 (some a440))) fun (a450 : Nat) =>
  nm (nw (sR (sI (sI (sI (sI (sI h439 a440 (0 : Int32).toNatClampNeg ((112 : Int32).toUInt32.toUInt16.toUInt32.toInt32)) a440 (1 : Int32).toNatClampNeg ((101 : Int32).toUInt32.toUInt16.toUInt32.toInt32)) a440 (2 : Int32).toNatClampNeg ((114 : Int32).toUInt32.toUInt16.toUInt32.toInt32)) a440 (3 : Int32).toNatClampNeg ((109 : Int32).toUInt32.toUInt16.toUInt32.toInt32)) a440 (4 : Int32).toNatClampNeg ((115 : Int32).toUInt32.toUInt16.toUInt32.toInt32)) x0 84 (some a440)) (.inr (.char, 6)) 6) fun (h449 : aH) =>
  ka h449 a450 .char fun n452 =>
  chk (inb 0 n452 = true) <|
  chk (inb 1 n452 = true) <|
  chk (inb 2 n452 = true) <|
  chk (inb 3 n452 = true) <|
  chk (inb 4 n452 = true) <|
  chk (inb 5 n452 = true) <|
  ko h449 x0 11 <|
  nm (hN (sR (sI (sI (sI (sI (sI (sI h449 a450 (0 : Int32).toNatClampNeg ((110 : Int32).toUInt32.toUInt16.toUInt32.toInt32)) a450 (1 : Int32).toNatClampNeg ((117 : Int32).toUInt32.toUInt16.toUInt32.toInt32)) a450 (2 : Int32).toNatClampNeg ((109 : Int32).toUInt32.toUInt16.toUInt32.toInt32)) a450 (3 : Int32).toNatClampNeg ((98 : Int32).toUInt32.toUInt16.toUInt32.toInt32)) a450 (4 : Int32).toNatClampNeg ((101 : Int32).toUInt32.toUInt16.toUInt32.toInt32)) a450 (5 : Int32).toNatClampNeg ((114 : Int32).toUInt32.toUInt16.toUInt32.toInt32)) x0 85 (some a450))) fun (a461 : Nat) =>
  nm (nw (sR (sI (sI (sI (sI (sI (sI h449 a450 (0 : Int32).toNatClampNeg ((110 : Int32).toUInt32.toUInt16.toUInt32.toInt32)) a450 (1 : Int32).toNatClampNeg ((117 : Int32).toUInt32.toUInt16.toUInt32.toInt32)) a450 (2 : Int32).toNatClampNeg ((109 : Int32).toUInt32.toUInt16.toUInt32.toInt32)) a450 (3 : Int32).toNatClampNeg ((98 : Int32).toUInt32.toUInt16.toUInt32.toInt32)) a450 (4 : Int32).toNatClampNeg ((101 : Int32).toUInt32.toUInt16.toUInt32.toInt32)) a450 (5 : Int32).toNatClampNeg ((114 : Int32).toUInt32.toUInt16.toUInt32.toInt32)) x0 85 (some a450)) (.inr (.char, 3)) 3) fun (h460 : aH) =>
  ka h460 a461 .char fun n463 =>
  chk (inb 0 n463 = true) <|
  chk (inb 1 n463 = true) <|
  chk (inb 2 n463 = true) <|
  ko h460 x0 11 <|
  nm (hN (sR (sI (sI (sI h460 a461 (0 : Int32).toNatClampNeg ((101 : Int32).toUInt32.toUInt16.toUInt32.toInt32)) a461 (1 : Int32).toNatClampNeg ((120 : Int32).toUInt32.toUInt16.toUInt32.toInt32)) a461 (2 : Int32).toNatClampNeg ((112 : Int32).toUInt32.toUInt16.toUInt32.toInt32)) x0 86 (some a461))) fun (a469 : Nat) =>
  nm (nw (sR (sI (sI (sI h460 a461 (0 : Int32).toNatClampNeg ((101 : Int32).toUInt32.toUInt16.toUInt32.toInt32)) a461 (1 : Int32).toNatClampNeg ((120 : Int32).toUInt32.toUInt16.toUInt32.toInt32)) a461 (2 : Int32).toNatClampNeg ((112 : Int32).toUInt32.toUInt16.toUInt32.toInt32)) x0 86 (some a461)) (.inr (.char, 4)) 4) fun (h468 : aH) =>
  ka h468 a469 .char fun n471 =>
  chk (inb 0 n471 = true) <|
  chk (inb 1 n471 = true) <|
  chk (inb 2 n471 = true) <|
  chk (inb 3 n471 = true) <|
  ko h468 x0 11 <|
  nm (hN (sR (sI (sI (sI (sI h468 a469 (0 : Int32).toNatClampNeg ((107 : Int32).toUInt32.toUInt16.toUInt32.toInt32)) a469 (1 : Int32).toNatClampNeg ((105 : Int32).toUInt32.toUInt16.toUInt32.toInt32)) a469 (2 : Int32).toNatClampNeg ((110 : Int32).toUInt32.toUInt16.toUInt32.toInt32)) a469 (3 : Int32).toNatClampNeg ((100 : Int32).toUInt32.toUInt16.toUInt32.toInt32)) x0 87 (some a469))) fun (a478 : Nat) =>
  nm (nw (sR (sI (sI (sI (sI h468 a469 (0 : Int32).toNatClampNeg ((107 : Int32).toUInt32.toUInt16.toUInt32.toInt32)) a469 (1 : Int32).toNatClampNeg ((105 : Int32).toUInt32.toUInt16.toUInt32.toInt32)) a469 (2 : Int32).toNatClampNeg ((110 : Int32).toUInt32.toUInt16.toUInt32.toInt32)) a469 (3 : Int32).toNatClampNeg ((100 : Int32).toUInt32.toUInt16.toUInt32.toInt32)) x0 87 (some a469)) (.inr (.char, 5)) 5) fun (h477 : aH) =>
  ka h477 a478 .char fun n480 =>
  chk (inb 0 n480 = true) <|
  chk (inb 1 n480 = true) <|
  chk (inb 2 n480 = true) <|
  chk (inb 3 n480 = true) <|
  chk (inb 4 n480 = true) <|
  ko h477 x0 11 <|
  nm (hN (sR (sI (sI (sI (sI (sI h477 a478 (0 : Int32).toNatClampNeg ((118 : Int32).toUInt32.toUInt16.toUInt32.toInt32)) a478 (1 : Int32).toNatClampNeg ((97 : Int32).toUInt32.toUInt16.toUInt32.toInt32)) a478 (2 : Int32).toNatClampNeg ((108 : Int32).toUInt32.toUInt16.toUInt32.toInt32)) a478 (3 : Int32).toNatClampNeg ((105 : Int32).toUInt32.toUInt16.toUInt32.toInt32)) a478 (4 : Int32).toNatClampNeg ((100 : Int32).toUInt32.toUInt16.toUInt32.toInt32)) x0 88 (some a478))) fun (a488 : Nat) =>
  nm (nw (sR (sI (sI (sI (sI (sI h477 a478 (0 : Int32).toNatClampNeg ((118 : Int32).toUInt32.toUInt16.toUInt32.toInt32)) a478 (1 : Int32).toNatClampNeg ((97 : Int32).toUInt32.toUInt16.toUInt32.toInt32)) a478 (2 : Int32).toNatClampNeg ((108 : Int32).toUInt32.toUInt16.toUInt32.toInt32)) a478 (3 : Int32).toNatClampNeg ((105 : Int32).toUInt32.toUInt16.toUInt32.toInt32)) a478 (4 : Int32).toNatClampNeg ((100 : Int32).toUInt32.toUInt16.toUInt32.toInt32)) x0 88 (some a478)) (.inr (.char, 4)) 4) fun (h487 : aH) =>
  ka h487 a488 .char fun n490 =>
  chk (inb 0 n490 = true) <|
  chk (inb 1 n490 = true) <|
  chk (inb 2 n490 = true) <|
  chk (inb 3 n490 = true) <|
  ko h487 x0 11 <|
  nm (hN (sR (sI (sI (sI (sI h487 a488 (0 : Int32).toNatClampNeg ((102 : Int32).toUInt32.toUInt16.toUInt32.toInt32)) a488 (1 : Int32).toNatClampNeg ((114 : Int32).toUInt32.toUInt16.toUInt32.toInt32)) a488 (2 : Int32).toNatClampNeg ((111 : Int32).toUInt32.toUInt16.toUInt32.toInt32)) a488 (3 : Int32).toNatClampNeg ((109 : Int32).toUInt32.toUInt16.toUInt32.toInt32)) x0 89 (some a488))) fun (a497 : Nat) =>
  nm (nw (sR (sI (sI (sI (sI h487 a488 (0 : Int32).toNatClampNeg ((102 : Int32).toUInt32.toUInt16.toUInt32.toInt32)) a488 (1 : Int32).toNatClampNeg ((114 : Int32).toUInt32.toUInt16.toUInt32.toInt32)) a488 (2 : Int32).toNatClampNeg ((111 : Int32).toUInt32.toUInt16.toUInt32.toInt32)) a488 (3 : Int32).toNatClampNeg ((109 : Int32).toUInt32.toUInt16.toUInt32.toInt32)) x0 89 (some a488)) (.inr (.char, 4)) 4) fun (h496 : aH) =>
  ka h496 a497 .char fun n499 =>
  chk (inb 0 n499 = true) <|
  chk (inb 1 n499 = true) <|
  chk (inb 2 n499 = true) <|
  chk (inb 3 n499 = true) <|
  ko h496 x0 11 <|
  nm (hN (sR (sI (sI (sI (sI h496 a497 (0 : Int32).toNatClampNeg ((102 : Int32).toUInt32.toUInt16.toUInt32.toInt32)) a497 (1 : Int32).toNatClampNeg ((105 : Int32).toUInt32.toUInt16.toUInt32.toInt32)) a497 (2 : Int32).toNatClampNeg ((116 : Int32).toUInt32.toUInt16.toUInt32.toInt32)) a497 (3 : Int32).toNatClampNeg ((115 : Int32).toUInt32.toUInt16.toUInt32.toInt32)) x0 90 (some a497))) fun (a506 : Nat) =>
  nm (nw (sR (sI (sI (sI (sI h496 a497 (0 : Int32).toNatClampNeg ((102 : Int32).toUInt32.toUInt16.toUInt32.toInt32)) a497 (1 : Int32).toNatClampNeg ((105 : Int32).toUInt32.toUInt16.toUInt32.toInt32)) a497 (2 : Int32).toNatClampNeg ((116 : Int32).toUInt32.toUInt16.toUInt32.toInt32)) a497 (3 : Int32).toNatClampNeg ((115 : Int32).toUInt32.toUInt16.toUInt32.toInt32)) x0 90 (some a497)) (.inr (.int, 1700)) 1700) fun (h505 : aH) =>
  ko h505 x0 11 <|
  nm (hN (sR h505 x0 91 (some a506))) fun (a509 : Nat) =>
  nm (nw (sR h505 x0 91 (some a506)) (.inr (.int, 1700)) 1700) fun (h508 : aH) =>
  ko h508 x0 11 <|
  nm (hN (sR h508 x0 93 (some a509))) fun (a512 : Nat) =>
  nm (nw (sR h508 x0 93 (some a509)) (.inr (.long, 1700)) 1700) fun (h511 : aH) =>
  ko h511 x0 11 <|
  nm (hN (sR h511 x0 97 (some a512))) fun (a515 : Nat) =>
  nm (nw (sR h511 x0 97 (some a512)) (.inr (.int, 450)) 450) fun (h514 : aH) =>
  ko h514 x0 11 <|
  some ((), sR h514 x0 101 (some a515))
set_option maxRecDepth 100000 in
set_option maxHeartbeats 4000000 in
theorem t_X12_init {Γ : gS} {d : Nat} (hd : 1 ≤ d) {x0 : Nat} {h : aH} {r : Unit} {h' : aH} (H : f_X12_init x0 h = some (r, h')) : Mx Γ gX12_init d [.ref x0] h none h' := by
  refine Mx.of (by decide +kernel) (Nat.le_of_ble_eq_true rfl) ?_
  unfold f_X12_init at H
  show Ex Γ gX12_init d 0 [(0, .ref x0)] [] h none h'
  obtain ⟨d, rfl⟩ : ∃ e, d = e + 1 := ⟨d - 1, by omega⟩
  refine x_aload_n dX12_init_0 rfl 0 rfl ?_
  refine x_oinit dX12_init_1 lk_X12_1 im_obj co_obj (Nat.le_of_ble_eq_true rfl) ?_
  refine x_aload_n dX12_init_4 rfl 0 rfl ?_
  refine x_sipush (v := 1600) dX12_init_5 (by decide) ?_
  obtain ⟨a2, ea2, H⟩ := nm_o H
  obtain ⟨h1, eh1, H⟩ := nm_o H
  refine x_newa (t := .int) (N := 1600) dX12_init_8 rfl (by decide) rfl ac_int (by decide) (by decide) (by decide) ?_
  rw [ea2]
  refine Ex.ren eh1 ?_
  obtain ⟨c3, H⟩ := ko_o H
  refine x_putR fl_X12_7 dX12_init_10 c3 (fun _ => rfl) rfl ?_
  refine x_aload_n dX12_init_13 rfl 0 rfl ?_
  refine x_iconst (v := (-1)) dX12_init_14 (by decide) ?_
  refine x_putI fl_X12_13 dX12_init_15 c3 (fun e => by cases e) rfl ?_
  refine x_aload_n dX12_init_18 rfl 0 rfl ?_
  refine x_bipush (v := 8) dX12_init_19 (by decide) ?_
  obtain ⟨a5, ea5, H⟩ := nm_o H
  obtain ⟨h4, eh4, H⟩ := nm_o H
  refine x_newa (t := .int) (N := 8) dX12_init_21 rfl (by decide) rfl ac_int (by decide) (by decide) (by decide) ?_
  rw [ea5]
  refine Ex.ren eh4 ?_
  obtain ⟨c6, H⟩ := ko_o H
  refine x_putR fl_X12_17 dX12_init_23 c6 (fun _ => rfl) rfl ?_
  refine x_aload_n dX12_init_26 rfl 0 rfl ?_
  refine x_bipush (v := 6) dX12_init_27 (by decide) ?_
  obtain ⟨a8, ea8, H⟩ := nm_o H
  obtain ⟨h7, eh7, H⟩ := nm_o H
  refine x_newa (t := .char) (N := 6) dX12_init_29 rfl (by decide) rfl ac_char (by decide) (by decide) (by decide) ?_
  rw [ea8]
  refine Ex.ren eh7 ?_
  refine x_dup dX12_init_31 rfl ?_
  refine x_iconst (v := 0) dX12_init_32 (by decide) ?_
  refine x_bipush (v := 109) dX12_init_33 (by decide) ?_
  obtain ⟨n10, c9, H⟩ := ka_o H
  obtain ⟨c11, H⟩ := chk_o H
  refine x_cast dX12_init_35 c9 (inb_in.mp c11) ?_
  refine x_dup dX12_init_36 rfl ?_
  refine x_iconst (v := 1) dX12_init_37 (by decide) ?_
  refine x_bipush (v := 101) dX12_init_38 (by decide) ?_
  obtain ⟨c12, H⟩ := chk_o H
  refine x_cast dX12_init_40 c9 (inb_in.mp c12) ?_
  refine x_dup dX12_init_41 rfl ?_
  refine x_iconst (v := 2) dX12_init_42 (by decide) ?_
  refine x_bipush (v := 109) dX12_init_43 (by decide) ?_
  obtain ⟨c13, H⟩ := chk_o H
  refine x_cast dX12_init_45 c9 (inb_in.mp c13) ?_
  refine x_dup dX12_init_46 rfl ?_
  refine x_iconst (v := 3) dX12_init_47 (by decide) ?_
  refine x_bipush (v := 111) dX12_init_48 (by decide) ?_
  obtain ⟨c14, H⟩ := chk_o H
  refine x_cast dX12_init_50 c9 (inb_in.mp c14) ?_
  refine x_dup dX12_init_51 rfl ?_
  refine x_iconst (v := 4) dX12_init_52 (by decide) ?_
  refine x_bipush (v := 114) dX12_init_53 (by decide) ?_
  obtain ⟨c15, H⟩ := chk_o H
  refine x_cast dX12_init_55 c9 (inb_in.mp c15) ?_
  refine x_dup dX12_init_56 rfl ?_
  refine x_iconst (v := 5) dX12_init_57 (by decide) ?_
  refine x_bipush (v := 121) dX12_init_58 (by decide) ?_
  obtain ⟨c16, H⟩ := chk_o H
  refine x_cast dX12_init_60 c9 (inb_in.mp c16) ?_
  obtain ⟨c17, H⟩ := ko_o H
  refine x_putR fl_X12_20 dX12_init_61 c17 (fun _ => rfl) rfl ?_
  refine x_aload_n dX12_init_64 rfl 0 rfl ?_
  refine x_bipush (v := 8) dX12_init_65 (by decide) ?_
  obtain ⟨a19, ea19, H⟩ := nm_o H
  obtain ⟨h18, eh18, H⟩ := nm_o H
  refine x_newa (t := .char) (N := 8) dX12_init_67 rfl (by decide) rfl ac_char (by decide) (by decide) (by decide) ?_
  rw [ea19]
  refine Ex.ren eh18 ?_
  refine x_dup dX12_init_69 rfl ?_
  refine x_iconst (v := 0) dX12_init_70 (by decide) ?_
  refine x_bipush (v := 109) dX12_init_71 (by decide) ?_
  obtain ⟨n21, c20, H⟩ := ka_o H
  obtain ⟨c22, H⟩ := chk_o H
  refine x_cast dX12_init_73 c20 (inb_in.mp c22) ?_
  refine x_dup dX12_init_74 rfl ?_
  refine x_iconst (v := 1) dX12_init_75 (by decide) ?_
  refine x_bipush (v := 97) dX12_init_76 (by decide) ?_
  obtain ⟨c23, H⟩ := chk_o H
  refine x_cast dX12_init_78 c20 (inb_in.mp c23) ?_
  refine x_dup dX12_init_79 rfl ?_
  refine x_iconst (v := 2) dX12_init_80 (by decide) ?_
  refine x_bipush (v := 110) dX12_init_81 (by decide) ?_
  obtain ⟨c24, H⟩ := chk_o H
  refine x_cast dX12_init_83 c20 (inb_in.mp c24) ?_
  refine x_dup dX12_init_84 rfl ?_
  refine x_iconst (v := 3) dX12_init_85 (by decide) ?_
  refine x_bipush (v := 116) dX12_init_86 (by decide) ?_
  obtain ⟨c25, H⟩ := chk_o H
  refine x_cast dX12_init_88 c20 (inb_in.mp c25) ?_
  refine x_dup dX12_init_89 rfl ?_
  refine x_iconst (v := 4) dX12_init_90 (by decide) ?_
  refine x_bipush (v := 105) dX12_init_91 (by decide) ?_
  obtain ⟨c26, H⟩ := chk_o H
  refine x_cast dX12_init_93 c20 (inb_in.mp c26) ?_
  refine x_dup dX12_init_94 rfl ?_
  refine x_iconst (v := 5) dX12_init_95 (by decide) ?_
  refine x_bipush (v := 115) dX12_init_96 (by decide) ?_
  obtain ⟨c27, H⟩ := chk_o H
  refine x_cast dX12_init_98 c20 (inb_in.mp c27) ?_
  refine x_dup dX12_init_99 rfl ?_
  refine x_bipush (v := 6) dX12_init_100 (by decide) ?_
  refine x_bipush (v := 115) dX12_init_102 (by decide) ?_
  obtain ⟨c28, H⟩ := chk_o H
  refine x_cast dX12_init_104 c20 (inb_in.mp c28) ?_
  refine x_dup dX12_init_105 rfl ?_
  refine x_bipush (v := 7) dX12_init_106 (by decide) ?_
  refine x_bipush (v := 97) dX12_init_108 (by decide) ?_
  obtain ⟨c29, H⟩ := chk_o H
  refine x_cast dX12_init_110 c20 (inb_in.mp c29) ?_
  obtain ⟨c30, H⟩ := ko_o H
  refine x_putR fl_X12_24 dX12_init_111 c30 (fun _ => rfl) rfl ?_
  refine x_aload_n dX12_init_114 rfl 0 rfl ?_
  refine x_iconst (v := 5) dX12_init_115 (by decide) ?_
  obtain ⟨a32, ea32, H⟩ := nm_o H
  obtain ⟨h31, eh31, H⟩ := nm_o H
  refine x_newa (t := .char) (N := 5) dX12_init_116 rfl (by decide) rfl ac_char (by decide) (by decide) (by decide) ?_
  rw [ea32]
  refine Ex.ren eh31 ?_
  refine x_dup dX12_init_118 rfl ?_
  refine x_iconst (v := 0) dX12_init_119 (by decide) ?_
  refine x_bipush (v := 115) dX12_init_120 (by decide) ?_
  obtain ⟨n34, c33, H⟩ := ka_o H
  obtain ⟨c35, H⟩ := chk_o H
  refine x_cast dX12_init_122 c33 (inb_in.mp c35) ?_
  refine x_dup dX12_init_123 rfl ?_
  refine x_iconst (v := 1) dX12_init_124 (by decide) ?_
  refine x_bipush (v := 104) dX12_init_125 (by decide) ?_
  obtain ⟨c36, H⟩ := chk_o H
  refine x_cast dX12_init_127 c33 (inb_in.mp c36) ?_
  refine x_dup dX12_init_128 rfl ?_
  refine x_iconst (v := 2) dX12_init_129 (by decide) ?_
  refine x_bipush (v := 101) dX12_init_130 (by decide) ?_
  obtain ⟨c37, H⟩ := chk_o H
  refine x_cast dX12_init_132 c33 (inb_in.mp c37) ?_
  refine x_dup dX12_init_133 rfl ?_
  refine x_iconst (v := 3) dX12_init_134 (by decide) ?_
  refine x_bipush (v := 108) dX12_init_135 (by decide) ?_
  obtain ⟨c38, H⟩ := chk_o H
  refine x_cast dX12_init_137 c33 (inb_in.mp c38) ?_
  refine x_dup dX12_init_138 rfl ?_
  refine x_iconst (v := 4) dX12_init_139 (by decide) ?_
  refine x_bipush (v := 102) dX12_init_140 (by decide) ?_
  obtain ⟨c39, H⟩ := chk_o H
  refine x_cast dX12_init_142 c33 (inb_in.mp c39) ?_
  obtain ⟨c40, H⟩ := ko_o H
  refine x_putR fl_X12_27 dX12_init_143 c40 (fun _ => rfl) rfl ?_
  refine x_aload_n dX12_init_146 rfl 0 rfl ?_
  refine x_iconst (v := 4) dX12_init_147 (by decide) ?_
  obtain ⟨a42, ea42, H⟩ := nm_o H
  obtain ⟨h41, eh41, H⟩ := nm_o H
  refine x_newa (t := .char) (N := 4) dX12_init_148 rfl (by decide) rfl ac_char (by decide) (by decide) (by decide) ?_
  rw [ea42]
  refine Ex.ren eh41 ?_
  refine x_dup dX12_init_150 rfl ?_
  refine x_iconst (v := 0) dX12_init_151 (by decide) ?_
  refine x_bipush (v := 107) dX12_init_152 (by decide) ?_
  obtain ⟨n44, c43, H⟩ := ka_o H
  obtain ⟨c45, H⟩ := chk_o H
  refine x_cast dX12_init_154 c43 (inb_in.mp c45) ?_
  refine x_dup dX12_init_155 rfl ?_
  refine x_iconst (v := 1) dX12_init_156 (by decide) ?_
  refine x_bipush (v := 105) dX12_init_157 (by decide) ?_
  obtain ⟨c46, H⟩ := chk_o H
  refine x_cast dX12_init_159 c43 (inb_in.mp c46) ?_
  refine x_dup dX12_init_160 rfl ?_
  refine x_iconst (v := 2) dX12_init_161 (by decide) ?_
  refine x_bipush (v := 110) dX12_init_162 (by decide) ?_
  obtain ⟨c47, H⟩ := chk_o H
  refine x_cast dX12_init_164 c43 (inb_in.mp c47) ?_
  refine x_dup dX12_init_165 rfl ?_
  refine x_iconst (v := 3) dX12_init_166 (by decide) ?_
  refine x_bipush (v := 100) dX12_init_167 (by decide) ?_
  obtain ⟨c48, H⟩ := chk_o H
  refine x_cast dX12_init_169 c43 (inb_in.mp c48) ?_
  obtain ⟨c49, H⟩ := ko_o H
  refine x_putR fl_X12_30 dX12_init_170 c49 (fun _ => rfl) rfl ?_
  refine x_aload_n dX12_init_173 rfl 0 rfl ?_
  refine x_iconst (v := 5) dX12_init_174 (by decide) ?_
  obtain ⟨a51, ea51, H⟩ := nm_o H
  obtain ⟨h50, eh50, H⟩ := nm_o H
  refine x_newa (t := .char) (N := 5) dX12_init_175 rfl (by decide) rfl ac_char (by decide) (by decide) (by decide) ?_
  rw [ea51]
  refine Ex.ren eh50 ?_
  refine x_dup dX12_init_177 rfl ?_
  refine x_iconst (v := 0) dX12_init_178 (by decide) ?_
  refine x_bipush (v := 112) dX12_init_179 (by decide) ?_
  obtain ⟨n53, c52, H⟩ := ka_o H
  obtain ⟨c54, H⟩ := chk_o H
  refine x_cast dX12_init_181 c52 (inb_in.mp c54) ?_
  refine x_dup dX12_init_182 rfl ?_
  refine x_iconst (v := 1) dX12_init_183 (by decide) ?_
  refine x_bipush (v := 105) dX12_init_184 (by decide) ?_
  obtain ⟨c55, H⟩ := chk_o H
  refine x_cast dX12_init_186 c52 (inb_in.mp c55) ?_
  refine x_dup dX12_init_187 rfl ?_
  refine x_iconst (v := 2) dX12_init_188 (by decide) ?_
  refine x_bipush (v := 99) dX12_init_189 (by decide) ?_
  obtain ⟨c56, H⟩ := chk_o H
  refine x_cast dX12_init_191 c52 (inb_in.mp c56) ?_
  refine x_dup dX12_init_192 rfl ?_
  refine x_iconst (v := 3) dX12_init_193 (by decide) ?_
  refine x_bipush (v := 107) dX12_init_194 (by decide) ?_
  obtain ⟨c57, H⟩ := chk_o H
  refine x_cast dX12_init_196 c52 (inb_in.mp c57) ?_
  refine x_dup dX12_init_197 rfl ?_
  refine x_iconst (v := 4) dX12_init_198 (by decide) ?_
  refine x_bipush (v := 115) dX12_init_199 (by decide) ?_
  obtain ⟨c58, H⟩ := chk_o H
  refine x_cast dX12_init_201 c52 (inb_in.mp c58) ?_
  obtain ⟨c59, H⟩ := ko_o H
  refine x_putR fl_X12_33 dX12_init_202 c59 (fun _ => rfl) rfl ?_
  refine x_aload_n dX12_init_205 rfl 0 rfl ?_
  refine x_iconst (v := 4) dX12_init_206 (by decide) ?_
  obtain ⟨a61, ea61, H⟩ := nm_o H
  obtain ⟨h60, eh60, H⟩ := nm_o H
  refine x_newa (t := .char) (N := 4) dX12_init_207 rfl (by decide) rfl ac_char (by decide) (by decide) (by decide) ?_
  rw [ea61]
  refine Ex.ren eh60 ?_
  refine x_dup dX12_init_209 rfl ?_
  refine x_iconst (v := 0) dX12_init_210 (by decide) ?_
  refine x_bipush (v := 112) dX12_init_211 (by decide) ?_
  obtain ⟨n63, c62, H⟩ := ka_o H
  obtain ⟨c64, H⟩ := chk_o H
  refine x_cast dX12_init_213 c62 (inb_in.mp c64) ?_
  refine x_dup dX12_init_214 rfl ?_
  refine x_iconst (v := 1) dX12_init_215 (by decide) ?_
  refine x_bipush (v := 97) dX12_init_216 (by decide) ?_
  obtain ⟨c65, H⟩ := chk_o H
  refine x_cast dX12_init_218 c62 (inb_in.mp c65) ?_
  refine x_dup dX12_init_219 rfl ?_
  refine x_iconst (v := 2) dX12_init_220 (by decide) ?_
  refine x_bipush (v := 100) dX12_init_221 (by decide) ?_
  obtain ⟨c66, H⟩ := chk_o H
  refine x_cast dX12_init_223 c62 (inb_in.mp c66) ?_
  refine x_dup dX12_init_224 rfl ?_
  refine x_iconst (v := 3) dX12_init_225 (by decide) ?_
  refine x_bipush (v := 115) dX12_init_226 (by decide) ?_
  obtain ⟨c67, H⟩ := chk_o H
  refine x_cast dX12_init_228 c62 (inb_in.mp c67) ?_
  obtain ⟨c68, H⟩ := ko_o H
  refine x_putR fl_X12_36 dX12_init_229 c68 (fun _ => rfl) rfl ?_
  refine x_aload_n dX12_init_232 rfl 0 rfl ?_
  refine x_iconst (v := 5) dX12_init_233 (by decide) ?_
  obtain ⟨a70, ea70, H⟩ := nm_o H
  obtain ⟨h69, eh69, H⟩ := nm_o H
  refine x_newa (t := .char) (N := 5) dX12_init_234 rfl (by decide) rfl ac_char (by decide) (by decide) (by decide) ?_
  rw [ea70]
  refine Ex.ren eh69 ?_
  refine x_dup dX12_init_236 rfl ?_
  refine x_iconst (v := 0) dX12_init_237 (by decide) ?_
  refine x_bipush (v := 116) dX12_init_238 (by decide) ?_
  obtain ⟨n72, c71, H⟩ := ka_o H
  obtain ⟨c73, H⟩ := chk_o H
  refine x_cast dX12_init_240 c71 (inb_in.mp c73) ?_
  refine x_dup dX12_init_241 rfl ?_
  refine x_iconst (v := 1) dX12_init_242 (by decide) ?_
  refine x_bipush (v := 114) dX12_init_243 (by decide) ?_
  obtain ⟨c74, H⟩ := chk_o H
  refine x_cast dX12_init_245 c71 (inb_in.mp c74) ?_
  refine x_dup dX12_init_246 rfl ?_
  refine x_iconst (v := 2) dX12_init_247 (by decide) ?_
  refine x_bipush (v := 97) dX12_init_248 (by decide) ?_
  obtain ⟨c75, H⟩ := chk_o H
  refine x_cast dX12_init_250 c71 (inb_in.mp c75) ?_
  refine x_dup dX12_init_251 rfl ?_
  refine x_iconst (v := 3) dX12_init_252 (by decide) ?_
  refine x_bipush (v := 112) dX12_init_253 (by decide) ?_
  obtain ⟨c76, H⟩ := chk_o H
  refine x_cast dX12_init_255 c71 (inb_in.mp c76) ?_
  refine x_dup dX12_init_256 rfl ?_
  refine x_iconst (v := 4) dX12_init_257 (by decide) ?_
  refine x_bipush (v := 115) dX12_init_258 (by decide) ?_
  obtain ⟨c77, H⟩ := chk_o H
  refine x_cast dX12_init_260 c71 (inb_in.mp c77) ?_
  obtain ⟨c78, H⟩ := ko_o H
  refine x_putR fl_X12_39 dX12_init_261 c78 (fun _ => rfl) rfl ?_
  refine x_aload_n dX12_init_264 rfl 0 rfl ?_
  refine x_iconst (v := 4) dX12_init_265 (by decide) ?_
  obtain ⟨a80, ea80, H⟩ := nm_o H
  obtain ⟨h79, eh79, H⟩ := nm_o H
  refine x_newa (t := .char) (N := 4) dX12_init_266 rfl (by decide) rfl ac_char (by decide) (by decide) (by decide) ?_
  rw [ea80]
  refine Ex.ren eh79 ?_
  refine x_dup dX12_init_268 rfl ?_
  refine x_iconst (v := 0) dX12_init_269 (by decide) ?_
  refine x_bipush (v := 110) dX12_init_270 (by decide) ?_
  obtain ⟨n82, c81, H⟩ := ka_o H
  obtain ⟨c83, H⟩ := chk_o H
  refine x_cast dX12_init_272 c81 (inb_in.mp c83) ?_
  refine x_dup dX12_init_273 rfl ?_
  refine x_iconst (v := 1) dX12_init_274 (by decide) ?_
  refine x_bipush (v := 101) dX12_init_275 (by decide) ?_
  obtain ⟨c84, H⟩ := chk_o H
  refine x_cast dX12_init_277 c81 (inb_in.mp c84) ?_
  refine x_dup dX12_init_278 rfl ?_
  refine x_iconst (v := 2) dX12_init_279 (by decide) ?_
  refine x_bipush (v := 101) dX12_init_280 (by decide) ?_
  obtain ⟨c85, H⟩ := chk_o H
  refine x_cast dX12_init_282 c81 (inb_in.mp c85) ?_
  refine x_dup dX12_init_283 rfl ?_
  refine x_iconst (v := 3) dX12_init_284 (by decide) ?_
  refine x_bipush (v := 100) dX12_init_285 (by decide) ?_
  obtain ⟨c86, H⟩ := chk_o H
  refine x_cast dX12_init_287 c81 (inb_in.mp c86) ?_
  obtain ⟨c87, H⟩ := ko_o H
  refine x_putR fl_X12_42 dX12_init_288 c87 (fun _ => rfl) rfl ?_
  refine x_aload_n dX12_init_291 rfl 0 rfl ?_
  refine x_iconst (v := 5) dX12_init_292 (by decide) ?_
  obtain ⟨a89, ea89, H⟩ := nm_o H
  obtain ⟨h88, eh88, H⟩ := nm_o H
  refine x_newa (t := .char) (N := 5) dX12_init_293 rfl (by decide) rfl ac_char (by decide) (by decide) (by decide) ?_
  rw [ea89]
  refine Ex.ren eh88 ?_
  refine x_dup dX12_init_295 rfl ?_
  refine x_iconst (v := 0) dX12_init_296 (by decide) ?_
  refine x_bipush (v := 115) dX12_init_297 (by decide) ?_
  obtain ⟨n91, c90, H⟩ := ka_o H
  obtain ⟨c92, H⟩ := chk_o H
  refine x_cast dX12_init_299 c90 (inb_in.mp c92) ?_
  refine x_dup dX12_init_300 rfl ?_
  refine x_iconst (v := 1) dX12_init_301 (by decide) ?_
  refine x_bipush (v := 116) dX12_init_302 (by decide) ?_
  obtain ⟨c93, H⟩ := chk_o H
  refine x_cast dX12_init_304 c90 (inb_in.mp c93) ?_
  refine x_dup dX12_init_305 rfl ?_
  refine x_iconst (v := 2) dX12_init_306 (by decide) ?_
  refine x_bipush (v := 97) dX12_init_307 (by decide) ?_
  obtain ⟨c94, H⟩ := chk_o H
  refine x_cast dX12_init_309 c90 (inb_in.mp c94) ?_
  refine x_dup dX12_init_310 rfl ?_
  refine x_iconst (v := 3) dX12_init_311 (by decide) ?_
  refine x_bipush (v := 114) dX12_init_312 (by decide) ?_
  obtain ⟨c95, H⟩ := chk_o H
  refine x_cast dX12_init_314 c90 (inb_in.mp c95) ?_
  refine x_dup dX12_init_315 rfl ?_
  refine x_iconst (v := 4) dX12_init_316 (by decide) ?_
  refine x_bipush (v := 116) dX12_init_317 (by decide) ?_
  obtain ⟨c96, H⟩ := chk_o H
  refine x_cast dX12_init_319 c90 (inb_in.mp c96) ?_
  obtain ⟨c97, H⟩ := ko_o H
  refine x_putR fl_X12_45 dX12_init_320 c97 (fun _ => rfl) rfl ?_
  refine x_aload_n dX12_init_323 rfl 0 rfl ?_
  refine x_iconst (v := 4) dX12_init_324 (by decide) ?_
  obtain ⟨a99, ea99, H⟩ := nm_o H
  obtain ⟨h98, eh98, H⟩ := nm_o H
  refine x_newa (t := .char) (N := 4) dX12_init_325 rfl (by decide) rfl ac_char (by decide) (by decide) (by decide) ?_
  rw [ea99]
  refine Ex.ren eh98 ?_
  refine x_dup dX12_init_327 rfl ?_
  refine x_iconst (v := 0) dX12_init_328 (by decide) ?_
  refine x_bipush (v := 114) dX12_init_329 (by decide) ?_
  obtain ⟨n101, c100, H⟩ := ka_o H
  obtain ⟨c102, H⟩ := chk_o H
  refine x_cast dX12_init_331 c100 (inb_in.mp c102) ?_
  refine x_dup dX12_init_332 rfl ?_
  refine x_iconst (v := 1) dX12_init_333 (by decide) ?_
  refine x_bipush (v := 111) dX12_init_334 (by decide) ?_
  obtain ⟨c103, H⟩ := chk_o H
  refine x_cast dX12_init_336 c100 (inb_in.mp c103) ?_
  refine x_dup dX12_init_337 rfl ?_
  refine x_iconst (v := 2) dX12_init_338 (by decide) ?_
  refine x_bipush (v := 111) dX12_init_339 (by decide) ?_
  obtain ⟨c104, H⟩ := chk_o H
  refine x_cast dX12_init_341 c100 (inb_in.mp c104) ?_
  refine x_dup dX12_init_342 rfl ?_
  refine x_iconst (v := 3) dX12_init_343 (by decide) ?_
  refine x_bipush (v := 109) dX12_init_344 (by decide) ?_
  obtain ⟨c105, H⟩ := chk_o H
  refine x_cast dX12_init_346 c100 (inb_in.mp c105) ?_
  obtain ⟨c106, H⟩ := ko_o H
  refine x_putR fl_X12_48 dX12_init_347 c106 (fun _ => rfl) rfl ?_
  refine x_aload_n dX12_init_350 rfl 0 rfl ?_
  refine x_iconst (v := 2) dX12_init_351 (by decide) ?_
  obtain ⟨a108, ea108, H⟩ := nm_o H
  obtain ⟨h107, eh107, H⟩ := nm_o H
  refine x_newa (t := .char) (N := 2) dX12_init_352 rfl (by decide) rfl ac_char (by decide) (by decide) (by decide) ?_
  rw [ea108]
  refine Ex.ren eh107 ?_
  refine x_dup dX12_init_354 rfl ?_
  refine x_iconst (v := 0) dX12_init_355 (by decide) ?_
  refine x_bipush (v := 97) dX12_init_356 (by decide) ?_
  obtain ⟨n110, c109, H⟩ := ka_o H
  obtain ⟨c111, H⟩ := chk_o H
  refine x_cast dX12_init_358 c109 (inb_in.mp c111) ?_
  refine x_dup dX12_init_359 rfl ?_
  refine x_iconst (v := 1) dX12_init_360 (by decide) ?_
  refine x_bipush (v := 116) dX12_init_361 (by decide) ?_
  obtain ⟨c112, H⟩ := chk_o H
  refine x_cast dX12_init_363 c109 (inb_in.mp c112) ?_
  obtain ⟨c113, H⟩ := ko_o H
  refine x_putR fl_X12_51 dX12_init_364 c113 (fun _ => rfl) rfl ?_
  refine x_aload_n dX12_init_367 rfl 0 rfl ?_
  refine x_iconst (v := 4) dX12_init_368 (by decide) ?_
  obtain ⟨a115, ea115, H⟩ := nm_o H
  obtain ⟨h114, eh114, H⟩ := nm_o H
  refine x_newa (t := .char) (N := 4) dX12_init_369 rfl (by decide) rfl ac_char (by decide) (by decide) (by decide) ?_
  rw [ea115]
  refine Ex.ren eh114 ?_
  refine x_dup dX12_init_371 rfl ?_
  refine x_iconst (v := 0) dX12_init_372 (by decide) ?_
  refine x_bipush (v := 98) dX12_init_373 (by decide) ?_
  obtain ⟨n117, c116, H⟩ := ka_o H
  obtain ⟨c118, H⟩ := chk_o H
  refine x_cast dX12_init_375 c116 (inb_in.mp c118) ?_
  refine x_dup dX12_init_376 rfl ?_
  refine x_iconst (v := 1) dX12_init_377 (by decide) ?_
  refine x_bipush (v := 97) dX12_init_378 (by decide) ?_
  obtain ⟨c119, H⟩ := chk_o H
  refine x_cast dX12_init_380 c116 (inb_in.mp c119) ?_
  refine x_dup dX12_init_381 rfl ?_
  refine x_iconst (v := 2) dX12_init_382 (by decide) ?_
  refine x_bipush (v := 115) dX12_init_383 (by decide) ?_
  obtain ⟨c120, H⟩ := chk_o H
  refine x_cast dX12_init_385 c116 (inb_in.mp c120) ?_
  refine x_dup dX12_init_386 rfl ?_
  refine x_iconst (v := 3) dX12_init_387 (by decide) ?_
  refine x_bipush (v := 101) dX12_init_388 (by decide) ?_
  obtain ⟨c121, H⟩ := chk_o H
  refine x_cast dX12_init_390 c116 (inb_in.mp c121) ?_
  obtain ⟨c122, H⟩ := ko_o H
  refine x_putR fl_X12_54 dX12_init_391 c122 (fun _ => rfl) rfl ?_
  refine x_aload_n dX12_init_394 rfl 0 rfl ?_
  refine x_bipush (v := 6) dX12_init_395 (by decide) ?_
  obtain ⟨a124, ea124, H⟩ := nm_o H
  obtain ⟨h123, eh123, H⟩ := nm_o H
  refine x_newa (t := .char) (N := 6) dX12_init_397 rfl (by decide) rfl ac_char (by decide) (by decide) (by decide) ?_
  rw [ea124]
  refine Ex.ren eh123 ?_
  refine x_dup dX12_init_399 rfl ?_
  refine x_iconst (v := 0) dX12_init_400 (by decide) ?_
  refine x_bipush (v := 108) dX12_init_401 (by decide) ?_
  obtain ⟨n126, c125, H⟩ := ka_o H
  obtain ⟨c127, H⟩ := chk_o H
  refine x_cast dX12_init_403 c125 (inb_in.mp c127) ?_
  refine x_dup dX12_init_404 rfl ?_
  refine x_iconst (v := 1) dX12_init_405 (by decide) ?_
  refine x_bipush (v := 101) dX12_init_406 (by decide) ?_
  obtain ⟨c128, H⟩ := chk_o H
  refine x_cast dX12_init_408 c125 (inb_in.mp c128) ?_
  refine x_dup dX12_init_409 rfl ?_
  refine x_iconst (v := 2) dX12_init_410 (by decide) ?_
  refine x_bipush (v := 110) dX12_init_411 (by decide) ?_
  obtain ⟨c129, H⟩ := chk_o H
  refine x_cast dX12_init_413 c125 (inb_in.mp c129) ?_
  refine x_dup dX12_init_414 rfl ?_
  refine x_iconst (v := 3) dX12_init_415 (by decide) ?_
  refine x_bipush (v := 103) dX12_init_416 (by decide) ?_
  obtain ⟨c130, H⟩ := chk_o H
  refine x_cast dX12_init_418 c125 (inb_in.mp c130) ?_
  refine x_dup dX12_init_419 rfl ?_
  refine x_iconst (v := 4) dX12_init_420 (by decide) ?_
  refine x_bipush (v := 116) dX12_init_421 (by decide) ?_
  obtain ⟨c131, H⟩ := chk_o H
  refine x_cast dX12_init_423 c125 (inb_in.mp c131) ?_
  refine x_dup dX12_init_424 rfl ?_
  refine x_iconst (v := 5) dX12_init_425 (by decide) ?_
  refine x_bipush (v := 104) dX12_init_426 (by decide) ?_
  obtain ⟨c132, H⟩ := chk_o H
  refine x_cast dX12_init_428 c125 (inb_in.mp c132) ?_
  obtain ⟨c133, H⟩ := ko_o H
  refine x_putR fl_X12_57 dX12_init_429 c133 (fun _ => rfl) rfl ?_
  refine x_aload_n dX12_init_432 rfl 0 rfl ?_
  refine x_iconst (v := 5) dX12_init_433 (by decide) ?_
  obtain ⟨a135, ea135, H⟩ := nm_o H
  obtain ⟨h134, eh134, H⟩ := nm_o H
  refine x_newa (t := .char) (N := 5) dX12_init_434 rfl (by decide) rfl ac_char (by decide) (by decide) (by decide) ?_
  rw [ea135]
  refine Ex.ren eh134 ?_
  refine x_dup dX12_init_436 rfl ?_
  refine x_iconst (v := 0) dX12_init_437 (by decide) ?_
  refine x_bipush (v := 112) dX12_init_438 (by decide) ?_
  obtain ⟨n137, c136, H⟩ := ka_o H
  obtain ⟨c138, H⟩ := chk_o H
  refine x_cast dX12_init_440 c136 (inb_in.mp c138) ?_
  refine x_dup dX12_init_441 rfl ?_
  refine x_iconst (v := 1) dX12_init_442 (by decide) ?_
  refine x_bipush (v := 101) dX12_init_443 (by decide) ?_
  obtain ⟨c139, H⟩ := chk_o H
  refine x_cast dX12_init_445 c136 (inb_in.mp c139) ?_
  refine x_dup dX12_init_446 rfl ?_
  refine x_iconst (v := 2) dX12_init_447 (by decide) ?_
  refine x_bipush (v := 114) dX12_init_448 (by decide) ?_
  obtain ⟨c140, H⟩ := chk_o H
  refine x_cast dX12_init_450 c136 (inb_in.mp c140) ?_
  refine x_dup dX12_init_451 rfl ?_
  refine x_iconst (v := 3) dX12_init_452 (by decide) ?_
  refine x_bipush (v := 109) dX12_init_453 (by decide) ?_
  obtain ⟨c141, H⟩ := chk_o H
  refine x_cast dX12_init_455 c136 (inb_in.mp c141) ?_
  refine x_dup dX12_init_456 rfl ?_
  refine x_iconst (v := 4) dX12_init_457 (by decide) ?_
  refine x_bipush (v := 115) dX12_init_458 (by decide) ?_
  obtain ⟨c142, H⟩ := chk_o H
  refine x_cast dX12_init_460 c136 (inb_in.mp c142) ?_
  obtain ⟨c143, H⟩ := ko_o H
  refine x_putR fl_X12_60 dX12_init_461 c143 (fun _ => rfl) rfl ?_
  refine x_aload_n dX12_init_464 rfl 0 rfl ?_
  refine x_bipush (v := 6) dX12_init_465 (by decide) ?_
  obtain ⟨a145, ea145, H⟩ := nm_o H
  obtain ⟨h144, eh144, H⟩ := nm_o H
  refine x_newa (t := .char) (N := 6) dX12_init_467 rfl (by decide) rfl ac_char (by decide) (by decide) (by decide) ?_
  rw [ea145]
  refine Ex.ren eh144 ?_
  refine x_dup dX12_init_469 rfl ?_
  refine x_iconst (v := 0) dX12_init_470 (by decide) ?_
  refine x_bipush (v := 110) dX12_init_471 (by decide) ?_
  obtain ⟨n147, c146, H⟩ := ka_o H
  obtain ⟨c148, H⟩ := chk_o H
  refine x_cast dX12_init_473 c146 (inb_in.mp c148) ?_
  refine x_dup dX12_init_474 rfl ?_
  refine x_iconst (v := 1) dX12_init_475 (by decide) ?_
  refine x_bipush (v := 117) dX12_init_476 (by decide) ?_
  obtain ⟨c149, H⟩ := chk_o H
  refine x_cast dX12_init_478 c146 (inb_in.mp c149) ?_
  refine x_dup dX12_init_479 rfl ?_
  refine x_iconst (v := 2) dX12_init_480 (by decide) ?_
  refine x_bipush (v := 109) dX12_init_481 (by decide) ?_
  obtain ⟨c150, H⟩ := chk_o H
  refine x_cast dX12_init_483 c146 (inb_in.mp c150) ?_
  refine x_dup dX12_init_484 rfl ?_
  refine x_iconst (v := 3) dX12_init_485 (by decide) ?_
  refine x_bipush (v := 98) dX12_init_486 (by decide) ?_
  obtain ⟨c151, H⟩ := chk_o H
  refine x_cast dX12_init_488 c146 (inb_in.mp c151) ?_
  refine x_dup dX12_init_489 rfl ?_
  refine x_iconst (v := 4) dX12_init_490 (by decide) ?_
  refine x_bipush (v := 101) dX12_init_491 (by decide) ?_
  obtain ⟨c152, H⟩ := chk_o H
  refine x_cast dX12_init_493 c146 (inb_in.mp c152) ?_
  refine x_dup dX12_init_494 rfl ?_
  refine x_iconst (v := 5) dX12_init_495 (by decide) ?_
  refine x_bipush (v := 114) dX12_init_496 (by decide) ?_
  obtain ⟨c153, H⟩ := chk_o H
  refine x_cast dX12_init_498 c146 (inb_in.mp c153) ?_
  obtain ⟨c154, H⟩ := ko_o H
  refine x_putR fl_X12_63 dX12_init_499 c154 (fun _ => rfl) rfl ?_
  refine x_aload_n dX12_init_502 rfl 0 rfl ?_
  refine x_iconst (v := 3) dX12_init_503 (by decide) ?_
  obtain ⟨a156, ea156, H⟩ := nm_o H
  obtain ⟨h155, eh155, H⟩ := nm_o H
  refine x_newa (t := .char) (N := 3) dX12_init_504 rfl (by decide) rfl ac_char (by decide) (by decide) (by decide) ?_
  rw [ea156]
  refine Ex.ren eh155 ?_
  refine x_dup dX12_init_506 rfl ?_
  refine x_iconst (v := 0) dX12_init_507 (by decide) ?_
  refine x_bipush (v := 101) dX12_init_508 (by decide) ?_
  obtain ⟨n158, c157, H⟩ := ka_o H
  obtain ⟨c159, H⟩ := chk_o H
  refine x_cast dX12_init_510 c157 (inb_in.mp c159) ?_
  refine x_dup dX12_init_511 rfl ?_
  refine x_iconst (v := 1) dX12_init_512 (by decide) ?_
  refine x_bipush (v := 120) dX12_init_513 (by decide) ?_
  obtain ⟨c160, H⟩ := chk_o H
  refine x_cast dX12_init_515 c157 (inb_in.mp c160) ?_
  refine x_dup dX12_init_516 rfl ?_
  refine x_iconst (v := 2) dX12_init_517 (by decide) ?_
  refine x_bipush (v := 112) dX12_init_518 (by decide) ?_
  obtain ⟨c161, H⟩ := chk_o H
  refine x_cast dX12_init_520 c157 (inb_in.mp c161) ?_
  obtain ⟨c162, H⟩ := ko_o H
  refine x_putR fl_X12_66 dX12_init_521 c162 (fun _ => rfl) rfl ?_
  refine x_aload_n dX12_init_524 rfl 0 rfl ?_
  refine x_iconst (v := 5) dX12_init_525 (by decide) ?_
  obtain ⟨a164, ea164, H⟩ := nm_o H
  obtain ⟨h163, eh163, H⟩ := nm_o H
  refine x_newa (t := .char) (N := 5) dX12_init_526 rfl (by decide) rfl ac_char (by decide) (by decide) (by decide) ?_
  rw [ea164]
  refine Ex.ren eh163 ?_
  refine x_dup dX12_init_528 rfl ?_
  refine x_iconst (v := 0) dX12_init_529 (by decide) ?_
  refine x_bipush (v := 118) dX12_init_530 (by decide) ?_
  obtain ⟨n166, c165, H⟩ := ka_o H
  obtain ⟨c167, H⟩ := chk_o H
  refine x_cast dX12_init_532 c165 (inb_in.mp c167) ?_
  refine x_dup dX12_init_533 rfl ?_
  refine x_iconst (v := 1) dX12_init_534 (by decide) ?_
  refine x_bipush (v := 97) dX12_init_535 (by decide) ?_
  obtain ⟨c168, H⟩ := chk_o H
  refine x_cast dX12_init_537 c165 (inb_in.mp c168) ?_
  refine x_dup dX12_init_538 rfl ?_
  refine x_iconst (v := 2) dX12_init_539 (by decide) ?_
  refine x_bipush (v := 108) dX12_init_540 (by decide) ?_
  obtain ⟨c169, H⟩ := chk_o H
  refine x_cast dX12_init_542 c165 (inb_in.mp c169) ?_
  refine x_dup dX12_init_543 rfl ?_
  refine x_iconst (v := 3) dX12_init_544 (by decide) ?_
  refine x_bipush (v := 105) dX12_init_545 (by decide) ?_
  obtain ⟨c170, H⟩ := chk_o H
  refine x_cast dX12_init_547 c165 (inb_in.mp c170) ?_
  refine x_dup dX12_init_548 rfl ?_
  refine x_iconst (v := 4) dX12_init_549 (by decide) ?_
  refine x_bipush (v := 100) dX12_init_550 (by decide) ?_
  obtain ⟨c171, H⟩ := chk_o H
  refine x_cast dX12_init_552 c165 (inb_in.mp c171) ?_
  obtain ⟨c172, H⟩ := ko_o H
  refine x_putR fl_X12_69 dX12_init_553 c172 (fun _ => rfl) rfl ?_
  refine x_aload_n dX12_init_556 rfl 0 rfl ?_
  refine x_iconst (v := 4) dX12_init_557 (by decide) ?_
  obtain ⟨a174, ea174, H⟩ := nm_o H
  obtain ⟨h173, eh173, H⟩ := nm_o H
  refine x_newa (t := .char) (N := 4) dX12_init_558 rfl (by decide) rfl ac_char (by decide) (by decide) (by decide) ?_
  rw [ea174]
  refine Ex.ren eh173 ?_
  refine x_dup dX12_init_560 rfl ?_
  refine x_iconst (v := 0) dX12_init_561 (by decide) ?_
  refine x_bipush (v := 102) dX12_init_562 (by decide) ?_
  obtain ⟨n176, c175, H⟩ := ka_o H
  obtain ⟨c177, H⟩ := chk_o H
  refine x_cast dX12_init_564 c175 (inb_in.mp c177) ?_
  refine x_dup dX12_init_565 rfl ?_
  refine x_iconst (v := 1) dX12_init_566 (by decide) ?_
  refine x_bipush (v := 114) dX12_init_567 (by decide) ?_
  obtain ⟨c178, H⟩ := chk_o H
  refine x_cast dX12_init_569 c175 (inb_in.mp c178) ?_
  refine x_dup dX12_init_570 rfl ?_
  refine x_iconst (v := 2) dX12_init_571 (by decide) ?_
  refine x_bipush (v := 111) dX12_init_572 (by decide) ?_
  obtain ⟨c179, H⟩ := chk_o H
  refine x_cast dX12_init_574 c175 (inb_in.mp c179) ?_
  refine x_dup dX12_init_575 rfl ?_
  refine x_iconst (v := 3) dX12_init_576 (by decide) ?_
  refine x_bipush (v := 109) dX12_init_577 (by decide) ?_
  obtain ⟨c180, H⟩ := chk_o H
  refine x_cast dX12_init_579 c175 (inb_in.mp c180) ?_
  obtain ⟨c181, H⟩ := ko_o H
  refine x_putR fl_X12_72 dX12_init_580 c181 (fun _ => rfl) rfl ?_
  refine x_aload_n dX12_init_583 rfl 0 rfl ?_
  refine x_iconst (v := 4) dX12_init_584 (by decide) ?_
  obtain ⟨a183, ea183, H⟩ := nm_o H
  obtain ⟨h182, eh182, H⟩ := nm_o H
  refine x_newa (t := .char) (N := 4) dX12_init_585 rfl (by decide) rfl ac_char (by decide) (by decide) (by decide) ?_
  rw [ea183]
  refine Ex.ren eh182 ?_
  refine x_dup dX12_init_587 rfl ?_
  refine x_iconst (v := 0) dX12_init_588 (by decide) ?_
  refine x_bipush (v := 102) dX12_init_589 (by decide) ?_
  obtain ⟨n185, c184, H⟩ := ka_o H
  obtain ⟨c186, H⟩ := chk_o H
  refine x_cast dX12_init_591 c184 (inb_in.mp c186) ?_
  refine x_dup dX12_init_592 rfl ?_
  refine x_iconst (v := 1) dX12_init_593 (by decide) ?_
  refine x_bipush (v := 105) dX12_init_594 (by decide) ?_
  obtain ⟨c187, H⟩ := chk_o H
  refine x_cast dX12_init_596 c184 (inb_in.mp c187) ?_
  refine x_dup dX12_init_597 rfl ?_
  refine x_iconst (v := 2) dX12_init_598 (by decide) ?_
  refine x_bipush (v := 116) dX12_init_599 (by decide) ?_
  obtain ⟨c188, H⟩ := chk_o H
  refine x_cast dX12_init_601 c184 (inb_in.mp c188) ?_
  refine x_dup dX12_init_602 rfl ?_
  refine x_iconst (v := 3) dX12_init_603 (by decide) ?_
  refine x_bipush (v := 115) dX12_init_604 (by decide) ?_
  obtain ⟨c189, H⟩ := chk_o H
  refine x_cast dX12_init_606 c184 (inb_in.mp c189) ?_
  obtain ⟨c190, H⟩ := ko_o H
  refine x_putR fl_X12_75 dX12_init_607 c190 (fun _ => rfl) rfl ?_
  refine x_aload_n dX12_init_610 rfl 0 rfl ?_
  refine x_iconst (v := 2) dX12_init_611 (by decide) ?_
  obtain ⟨a192, ea192, H⟩ := nm_o H
  obtain ⟨h191, eh191, H⟩ := nm_o H
  refine x_newa (t := .char) (N := 2) dX12_init_612 rfl (by decide) rfl ac_char (by decide) (by decide) (by decide) ?_
  rw [ea192]
  refine Ex.ren eh191 ?_
  refine x_dup dX12_init_614 rfl ?_
  refine x_iconst (v := 0) dX12_init_615 (by decide) ?_
  refine x_bipush (v := 111) dX12_init_616 (by decide) ?_
  obtain ⟨n194, c193, H⟩ := ka_o H
  obtain ⟨c195, H⟩ := chk_o H
  refine x_cast dX12_init_618 c193 (inb_in.mp c195) ?_
  refine x_dup dX12_init_619 rfl ?_
  refine x_iconst (v := 1) dX12_init_620 (by decide) ?_
  refine x_bipush (v := 114) dX12_init_621 (by decide) ?_
  obtain ⟨c196, H⟩ := chk_o H
  refine x_cast dX12_init_623 c193 (inb_in.mp c196) ?_
  obtain ⟨c197, H⟩ := ko_o H
  refine x_putR fl_X12_78 dX12_init_624 c197 (fun _ => rfl) rfl ?_
  refine x_aload_n dX12_init_627 rfl 0 rfl ?_
  refine x_iconst (v := 3) dX12_init_628 (by decide) ?_
  obtain ⟨a199, ea199, H⟩ := nm_o H
  obtain ⟨h198, eh198, H⟩ := nm_o H
  refine x_newa (t := .char) (N := 3) dX12_init_629 rfl (by decide) rfl ac_char (by decide) (by decide) (by decide) ?_
  rw [ea199]
  refine Ex.ren eh198 ?_
  refine x_dup dX12_init_631 rfl ?_
  refine x_iconst (v := 0) dX12_init_632 (by decide) ?_
  refine x_bipush (v := 97) dX12_init_633 (by decide) ?_
  obtain ⟨n201, c200, H⟩ := ka_o H
  obtain ⟨c202, H⟩ := chk_o H
  refine x_cast dX12_init_635 c200 (inb_in.mp c202) ?_
  refine x_dup dX12_init_636 rfl ?_
  refine x_iconst (v := 1) dX12_init_637 (by decide) ?_
  refine x_bipush (v := 110) dX12_init_638 (by decide) ?_
  obtain ⟨c203, H⟩ := chk_o H
  refine x_cast dX12_init_640 c200 (inb_in.mp c203) ?_
  refine x_dup dX12_init_641 rfl ?_
  refine x_iconst (v := 2) dX12_init_642 (by decide) ?_
  refine x_bipush (v := 100) dX12_init_643 (by decide) ?_
  obtain ⟨c204, H⟩ := chk_o H
  refine x_cast dX12_init_645 c200 (inb_in.mp c204) ?_
  obtain ⟨c205, H⟩ := ko_o H
  refine x_putR fl_X12_81 dX12_init_646 c205 (fun _ => rfl) rfl ?_
  refine x_aload_n dX12_init_649 rfl 0 rfl ?_
  refine x_iconst (v := 3) dX12_init_650 (by decide) ?_
  obtain ⟨a207, ea207, H⟩ := nm_o H
  obtain ⟨h206, eh206, H⟩ := nm_o H
  refine x_newa (t := .char) (N := 3) dX12_init_651 rfl (by decide) rfl ac_char (by decide) (by decide) (by decide) ?_
  rw [ea207]
  refine Ex.ren eh206 ?_
  refine x_dup dX12_init_653 rfl ?_
  refine x_iconst (v := 0) dX12_init_654 (by decide) ?_
  refine x_bipush (v := 110) dX12_init_655 (by decide) ?_
  obtain ⟨n209, c208, H⟩ := ka_o H
  obtain ⟨c210, H⟩ := chk_o H
  refine x_cast dX12_init_657 c208 (inb_in.mp c210) ?_
  refine x_dup dX12_init_658 rfl ?_
  refine x_iconst (v := 1) dX12_init_659 (by decide) ?_
  refine x_bipush (v := 111) dX12_init_660 (by decide) ?_
  obtain ⟨c211, H⟩ := chk_o H
  refine x_cast dX12_init_662 c208 (inb_in.mp c211) ?_
  refine x_dup dX12_init_663 rfl ?_
  refine x_iconst (v := 2) dX12_init_664 (by decide) ?_
  refine x_bipush (v := 116) dX12_init_665 (by decide) ?_
  obtain ⟨c212, H⟩ := chk_o H
  refine x_cast dX12_init_667 c208 (inb_in.mp c212) ?_
  obtain ⟨c213, H⟩ := ko_o H
  refine x_putR fl_X12_84 dX12_init_668 c213 (fun _ => rfl) rfl ?_
  refine x_aload_n dX12_init_671 rfl 0 rfl ?_
  refine x_iconst (v := 3) dX12_init_672 (by decide) ?_
  obtain ⟨a215, ea215, H⟩ := nm_o H
  obtain ⟨h214, eh214, H⟩ := nm_o H
  refine x_newa (t := .char) (N := 3) dX12_init_673 rfl (by decide) rfl ac_char (by decide) (by decide) (by decide) ?_
  rw [ea215]
  refine Ex.ren eh214 ?_
  refine x_dup dX12_init_675 rfl ?_
  refine x_iconst (v := 0) dX12_init_676 (by decide) ?_
  refine x_bipush (v := 97) dX12_init_677 (by decide) ?_
  obtain ⟨n217, c216, H⟩ := ka_o H
  obtain ⟨c218, H⟩ := chk_o H
  refine x_cast dX12_init_679 c216 (inb_in.mp c218) ?_
  refine x_dup dX12_init_680 rfl ?_
  refine x_iconst (v := 1) dX12_init_681 (by decide) ?_
  refine x_bipush (v := 108) dX12_init_682 (by decide) ?_
  obtain ⟨c219, H⟩ := chk_o H
  refine x_cast dX12_init_684 c216 (inb_in.mp c219) ?_
  refine x_dup dX12_init_685 rfl ?_
  refine x_iconst (v := 2) dX12_init_686 (by decide) ?_
  refine x_bipush (v := 108) dX12_init_687 (by decide) ?_
  obtain ⟨c220, H⟩ := chk_o H
  refine x_cast dX12_init_689 c216 (inb_in.mp c220) ?_
  obtain ⟨c221, H⟩ := ko_o H
  refine x_putR fl_X12_87 dX12_init_690 c221 (fun _ => rfl) rfl ?_
  refine x_aload_n dX12_init_693 rfl 0 rfl ?_
  refine x_iconst (v := 3) dX12_init_694 (by decide) ?_
  obtain ⟨a223, ea223, H⟩ := nm_o H
  obtain ⟨h222, eh222, H⟩ := nm_o H
  refine x_newa (t := .char) (N := 3) dX12_init_695 rfl (by decide) rfl ac_char (by decide) (by decide) (by decide) ?_
  rw [ea223]
  refine Ex.ren eh222 ?_
  refine x_dup dX12_init_697 rfl ?_
  refine x_iconst (v := 0) dX12_init_698 (by decide) ?_
  refine x_bipush (v := 109) dX12_init_699 (by decide) ?_
  obtain ⟨n225, c224, H⟩ := ka_o H
  obtain ⟨c226, H⟩ := chk_o H
  refine x_cast dX12_init_701 c224 (inb_in.mp c226) ?_
  refine x_dup dX12_init_702 rfl ?_
  refine x_iconst (v := 1) dX12_init_703 (by decide) ?_
  refine x_bipush (v := 105) dX12_init_704 (by decide) ?_
  obtain ⟨c227, H⟩ := chk_o H
  refine x_cast dX12_init_706 c224 (inb_in.mp c227) ?_
  refine x_dup dX12_init_707 rfl ?_
  refine x_iconst (v := 2) dX12_init_708 (by decide) ?_
  refine x_bipush (v := 110) dX12_init_709 (by decide) ?_
  obtain ⟨c228, H⟩ := chk_o H
  refine x_cast dX12_init_711 c224 (inb_in.mp c228) ?_
  obtain ⟨c229, H⟩ := ko_o H
  refine x_putR fl_X12_90 dX12_init_712 c229 (fun _ => rfl) rfl ?_
  refine x_aload_n dX12_init_715 rfl 0 rfl ?_
  refine x_iconst (v := 3) dX12_init_716 (by decide) ?_
  obtain ⟨a231, ea231, H⟩ := nm_o H
  obtain ⟨h230, eh230, H⟩ := nm_o H
  refine x_newa (t := .char) (N := 3) dX12_init_717 rfl (by decide) rfl ac_char (by decide) (by decide) (by decide) ?_
  rw [ea231]
  refine Ex.ren eh230 ?_
  refine x_dup dX12_init_719 rfl ?_
  refine x_iconst (v := 0) dX12_init_720 (by decide) ?_
  refine x_bipush (v := 109) dX12_init_721 (by decide) ?_
  obtain ⟨n233, c232, H⟩ := ka_o H
  obtain ⟨c234, H⟩ := chk_o H
  refine x_cast dX12_init_723 c232 (inb_in.mp c234) ?_
  refine x_dup dX12_init_724 rfl ?_
  refine x_iconst (v := 1) dX12_init_725 (by decide) ?_
  refine x_bipush (v := 97) dX12_init_726 (by decide) ?_
  obtain ⟨c235, H⟩ := chk_o H
  refine x_cast dX12_init_728 c232 (inb_in.mp c235) ?_
  refine x_dup dX12_init_729 rfl ?_
  refine x_iconst (v := 2) dX12_init_730 (by decide) ?_
  refine x_bipush (v := 120) dX12_init_731 (by decide) ?_
  obtain ⟨c236, H⟩ := chk_o H
  refine x_cast dX12_init_733 c232 (inb_in.mp c236) ?_
  obtain ⟨c237, H⟩ := ko_o H
  refine x_putR fl_X12_93 dX12_init_734 c237 (fun _ => rfl) rfl ?_
  refine x_aload_n dX12_init_737 rfl 0 rfl ?_
  refine x_bipush (v := 6) dX12_init_738 (by decide) ?_
  obtain ⟨a239, ea239, H⟩ := nm_o H
  obtain ⟨h238, eh238, H⟩ := nm_o H
  refine x_newa (t := .int) (N := 6) dX12_init_740 rfl (by decide) rfl ac_int (by decide) (by decide) (by decide) ?_
  rw [ea239]
  refine Ex.ren eh238 ?_
  obtain ⟨c240, H⟩ := ko_o H
  refine x_putR fl_X12_96 dX12_init_742 c240 (fun _ => rfl) rfl ?_
  refine x_aload_n dX12_init_745 rfl 0 rfl ?_
  refine x_bipush (v := 8) dX12_init_746 (by decide) ?_
  obtain ⟨a242, ea242, H⟩ := nm_o H
  obtain ⟨h241, eh241, H⟩ := nm_o H
  refine x_newa (t := .long) (N := 8) dX12_init_748 rfl (by decide) rfl ac_long (by decide) (by decide) (by decide) ?_
  rw [ea242]
  refine Ex.ren eh241 ?_
  obtain ⟨c243, H⟩ := ko_o H
  refine x_putR fl_X12_99 dX12_init_750 c243 (fun _ => rfl) rfl ?_
  refine x_aload_n dX12_init_753 rfl 0 rfl ?_
  refine x_bipush (v := 8) dX12_init_754 (by decide) ?_
  obtain ⟨a245, ea245, H⟩ := nm_o H
  obtain ⟨h244, eh244, H⟩ := nm_o H
  refine x_newa (t := .int) (N := 8) dX12_init_756 rfl (by decide) rfl ac_int (by decide) (by decide) (by decide) ?_
  rw [ea245]
  refine Ex.ren eh244 ?_
  obtain ⟨c246, H⟩ := ko_o H
  refine x_putR fl_X12_103 dX12_init_758 c246 (fun _ => rfl) rfl ?_
  refine x_aload_n dX12_init_761 rfl 0 rfl ?_
  refine x_bipush (v := 6) dX12_init_762 (by decide) ?_
  obtain ⟨a248, ea248, H⟩ := nm_o H
  obtain ⟨h247, eh247, H⟩ := nm_o H
  refine x_newa (t := .int) (N := 6) dX12_init_764 rfl (by decide) rfl ac_int (by decide) (by decide) (by decide) ?_
  rw [ea248]
  refine Ex.ren eh247 ?_
  refine x_dup dX12_init_766 rfl ?_
  refine x_iconst (v := 0) dX12_init_767 (by decide) ?_
  refine x_iconst (v := (-1)) dX12_init_768 (by decide) ?_
  obtain ⟨n250, c249, H⟩ := ka_o H
  obtain ⟨c251, H⟩ := chk_o H
  refine x_iast dX12_init_769 c249 (inb_in.mp c251) ?_
  refine x_dup dX12_init_770 rfl ?_
  refine x_iconst (v := 1) dX12_init_771 (by decide) ?_
  refine x_iconst (v := (-1)) dX12_init_772 (by decide) ?_
  obtain ⟨c252, H⟩ := chk_o H
  refine x_iast dX12_init_773 c249 (inb_in.mp c252) ?_
  refine x_dup dX12_init_774 rfl ?_
  refine x_iconst (v := 2) dX12_init_775 (by decide) ?_
  refine x_iconst (v := (-1)) dX12_init_776 (by decide) ?_
  obtain ⟨c253, H⟩ := chk_o H
  refine x_iast dX12_init_777 c249 (inb_in.mp c253) ?_
  refine x_dup dX12_init_778 rfl ?_
  refine x_iconst (v := 3) dX12_init_779 (by decide) ?_
  refine x_iconst (v := (-1)) dX12_init_780 (by decide) ?_
  obtain ⟨c254, H⟩ := chk_o H
  refine x_iast dX12_init_781 c249 (inb_in.mp c254) ?_
  refine x_dup dX12_init_782 rfl ?_
  refine x_iconst (v := 4) dX12_init_783 (by decide) ?_
  refine x_iconst (v := (-1)) dX12_init_784 (by decide) ?_
  obtain ⟨c255, H⟩ := chk_o H
  refine x_iast dX12_init_785 c249 (inb_in.mp c255) ?_
  refine x_dup dX12_init_786 rfl ?_
  refine x_iconst (v := 5) dX12_init_787 (by decide) ?_
  refine x_iconst (v := (-1)) dX12_init_788 (by decide) ?_
  obtain ⟨c256, H⟩ := chk_o H
  refine x_iast dX12_init_789 c249 (inb_in.mp c256) ?_
  obtain ⟨c257, H⟩ := ko_o H
  refine x_putR fl_X12_106 dX12_init_790 c257 (fun _ => rfl) rfl ?_
  refine x_aload_n dX12_init_793 rfl 0 rfl ?_
  refine x_bipush (v := 6) dX12_init_794 (by decide) ?_
  obtain ⟨a259, ea259, H⟩ := nm_o H
  obtain ⟨h258, eh258, H⟩ := nm_o H
  refine x_newa (t := .int) (N := 6) dX12_init_796 rfl (by decide) rfl ac_int (by decide) (by decide) (by decide) ?_
  rw [ea259]
  refine Ex.ren eh258 ?_
  obtain ⟨c260, H⟩ := ko_o H
  refine x_putR fl_X12_109 dX12_init_798 c260 (fun _ => rfl) rfl ?_
  refine x_aload_n dX12_init_801 rfl 0 rfl ?_
  refine x_sipush (v := 3200) dX12_init_802 (by decide) ?_
  obtain ⟨a262, ea262, H⟩ := nm_o H
  obtain ⟨h261, eh261, H⟩ := nm_o H
  refine x_newa (t := .int) (N := 3200) dX12_init_805 rfl (by decide) rfl ac_int (by decide) (by decide) (by decide) ?_
  rw [ea262]
  refine Ex.ren eh261 ?_
  obtain ⟨c263, H⟩ := ko_o H
  refine x_putR fl_X12_112 dX12_init_807 c263 (fun _ => rfl) rfl ?_
  refine x_aload_n dX12_init_810 rfl 0 rfl ?_
  refine x_sipush (v := 1498) dX12_init_811 (by decide) ?_
  obtain ⟨a265, ea265, H⟩ := nm_o H
  obtain ⟨h264, eh264, H⟩ := nm_o H
  refine x_newa (t := .int) (N := 1498) dX12_init_814 rfl (by decide) rfl ac_int (by decide) (by decide) (by decide) ?_
  rw [ea265]
  refine Ex.ren eh264 ?_
  obtain ⟨c266, H⟩ := ko_o H
  refine x_putR fl_X12_115 dX12_init_816 c266 (fun _ => rfl) rfl ?_
  refine x_aload_n dX12_init_819 rfl 0 rfl ?_
  refine x_bipush (v := 66) dX12_init_820 (by decide) ?_
  obtain ⟨a268, ea268, H⟩ := nm_o H
  obtain ⟨h267, eh267, H⟩ := nm_o H
  refine x_newa (t := .int) (N := 66) dX12_init_822 rfl (by decide) rfl ac_int (by decide) (by decide) (by decide) ?_
  rw [ea268]
  refine Ex.ren eh267 ?_
  obtain ⟨c269, H⟩ := ko_o H
  refine x_putR fl_X12_118 dX12_init_824 c269 (fun _ => rfl) rfl ?_
  refine x_aload_n dX12_init_827 rfl 0 rfl ?_
  refine x_bipush (v := 32) dX12_init_828 (by decide) ?_
  obtain ⟨a271, ea271, H⟩ := nm_o H
  obtain ⟨h270, eh270, H⟩ := nm_o H
  refine x_newa (t := .int) (N := 32) dX12_init_830 rfl (by decide) rfl ac_int (by decide) (by decide) (by decide) ?_
  rw [ea271]
  refine Ex.ren eh270 ?_
  obtain ⟨c272, H⟩ := ko_o H
  refine x_putR fl_X12_121 dX12_init_832 c272 (fun _ => rfl) rfl ?_
  refine x_aload_n dX12_init_835 rfl 0 rfl ?_
  refine x_sipush (v := 4096) dX12_init_836 (by decide) ?_
  obtain ⟨a274, ea274, H⟩ := nm_o H
  obtain ⟨h273, eh273, H⟩ := nm_o H
  refine x_newa (t := .boolean) (N := 4096) dX12_init_839 rfl (by decide) rfl ac_boolean (by decide) (by decide) (by decide) ?_
  rw [ea274]
  refine Ex.ren eh273 ?_
  obtain ⟨c275, H⟩ := ko_o H
  refine x_putR fl_X12_124 dX12_init_841 c275 (fun _ => rfl) rfl ?_
  refine x_aload_n dX12_init_844 rfl 0 rfl ?_
  refine x_sipush (v := 29960) dX12_init_845 (by decide) ?_
  obtain ⟨a277, ea277, H⟩ := nm_o H
  obtain ⟨h276, eh276, H⟩ := nm_o H
  refine x_newa (t := .int) (N := 29960) dX12_init_848 rfl (by decide) rfl ac_int (by decide) (by decide) (by decide) ?_
  rw [ea277]
  refine Ex.ren eh276 ?_
  obtain ⟨c278, H⟩ := ko_o H
  refine x_putR fl_X12_128 dX12_init_850 c278 (fun _ => rfl) rfl ?_
  refine x_aload_n dX12_init_853 rfl 0 rfl ?_
  refine x_lconst (v := 1) dX12_init_854 (by decide) ?_
  refine x_putL fl_X12_131 dX12_init_855 c278 (fun e => by cases e) rfl ?_
  refine x_aload_n dX12_init_858 rfl 0 rfl ?_
  refine x_iconst (v := 5) dX12_init_859 (by decide) ?_
  obtain ⟨a280, ea280, H⟩ := nm_o H
  obtain ⟨h279, eh279, H⟩ := nm_o H
  refine x_newa (t := .char) (N := 5) dX12_init_860 rfl (by decide) rfl ac_char (by decide) (by decide) (by decide) ?_
  rw [ea280]
  refine Ex.ren eh279 ?_
  refine x_dup dX12_init_862 rfl ?_
  refine x_iconst (v := 0) dX12_init_863 (by decide) ?_
  refine x_bipush (v := 102) dX12_init_864 (by decide) ?_
  obtain ⟨n282, c281, H⟩ := ka_o H
  obtain ⟨c283, H⟩ := chk_o H
  refine x_cast dX12_init_866 c281 (inb_in.mp c283) ?_
  refine x_dup dX12_init_867 rfl ?_
  refine x_iconst (v := 1) dX12_init_868 (by decide) ?_
  refine x_bipush (v := 105) dX12_init_869 (by decide) ?_
  obtain ⟨c284, H⟩ := chk_o H
  refine x_cast dX12_init_871 c281 (inb_in.mp c284) ?_
  refine x_dup dX12_init_872 rfl ?_
  refine x_iconst (v := 2) dX12_init_873 (by decide) ?_
  refine x_bipush (v := 114) dX12_init_874 (by decide) ?_
  obtain ⟨c285, H⟩ := chk_o H
  refine x_cast dX12_init_876 c281 (inb_in.mp c285) ?_
  refine x_dup dX12_init_877 rfl ?_
  refine x_iconst (v := 3) dX12_init_878 (by decide) ?_
  refine x_bipush (v := 115) dX12_init_879 (by decide) ?_
  obtain ⟨c286, H⟩ := chk_o H
  refine x_cast dX12_init_881 c281 (inb_in.mp c286) ?_
  refine x_dup dX12_init_882 rfl ?_
  refine x_iconst (v := 4) dX12_init_883 (by decide) ?_
  refine x_bipush (v := 116) dX12_init_884 (by decide) ?_
  obtain ⟨c287, H⟩ := chk_o H
  refine x_cast dX12_init_886 c281 (inb_in.mp c287) ?_
  obtain ⟨c288, H⟩ := ko_o H
  refine x_putR fl_X12_135 dX12_init_887 c288 (fun _ => rfl) rfl ?_
  refine x_aload_n dX12_init_890 rfl 0 rfl ?_
  refine x_iconst (v := 4) dX12_init_891 (by decide) ?_
  obtain ⟨a290, ea290, H⟩ := nm_o H
  obtain ⟨h289, eh289, H⟩ := nm_o H
  refine x_newa (t := .char) (N := 4) dX12_init_892 rfl (by decide) rfl ac_char (by decide) (by decide) (by decide) ?_
  rw [ea290]
  refine Ex.ren eh289 ?_
  refine x_dup dX12_init_894 rfl ?_
  refine x_iconst (v := 0) dX12_init_895 (by decide) ?_
  refine x_bipush (v := 108) dX12_init_896 (by decide) ?_
  obtain ⟨n292, c291, H⟩ := ka_o H
  obtain ⟨c293, H⟩ := chk_o H
  refine x_cast dX12_init_898 c291 (inb_in.mp c293) ?_
  refine x_dup dX12_init_899 rfl ?_
  refine x_iconst (v := 1) dX12_init_900 (by decide) ?_
  refine x_bipush (v := 97) dX12_init_901 (by decide) ?_
  obtain ⟨c294, H⟩ := chk_o H
  refine x_cast dX12_init_903 c291 (inb_in.mp c294) ?_
  refine x_dup dX12_init_904 rfl ?_
  refine x_iconst (v := 2) dX12_init_905 (by decide) ?_
  refine x_bipush (v := 115) dX12_init_906 (by decide) ?_
  obtain ⟨c295, H⟩ := chk_o H
  refine x_cast dX12_init_908 c291 (inb_in.mp c295) ?_
  refine x_dup dX12_init_909 rfl ?_
  refine x_iconst (v := 3) dX12_init_910 (by decide) ?_
  refine x_bipush (v := 116) dX12_init_911 (by decide) ?_
  obtain ⟨c296, H⟩ := chk_o H
  refine x_cast dX12_init_913 c291 (inb_in.mp c296) ?_
  obtain ⟨c297, H⟩ := ko_o H
  refine x_putR fl_X12_138 dX12_init_914 c297 (fun _ => rfl) rfl ?_
  refine x_aload_n dX12_init_917 rfl 0 rfl ?_
  refine x_iconst (v := 5) dX12_init_918 (by decide) ?_
  obtain ⟨a299, ea299, H⟩ := nm_o H
  obtain ⟨h298, eh298, H⟩ := nm_o H
  refine x_newa (t := .char) (N := 5) dX12_init_919 rfl (by decide) rfl ac_char (by decide) (by decide) (by decide) ?_
  rw [ea299]
  refine Ex.ren eh298 ?_
  refine x_dup dX12_init_921 rfl ?_
  refine x_iconst (v := 0) dX12_init_922 (by decide) ?_
  refine x_bipush (v := 111) dX12_init_923 (by decide) ?_
  obtain ⟨n301, c300, H⟩ := ka_o H
  obtain ⟨c302, H⟩ := chk_o H
  refine x_cast dX12_init_925 c300 (inb_in.mp c302) ?_
  refine x_dup dX12_init_926 rfl ?_
  refine x_iconst (v := 1) dX12_init_927 (by decide) ?_
  refine x_bipush (v := 102) dX12_init_928 (by decide) ?_
  obtain ⟨c303, H⟩ := chk_o H
  refine x_cast dX12_init_930 c300 (inb_in.mp c303) ?_
  refine x_dup dX12_init_931 rfl ?_
  refine x_iconst (v := 2) dX12_init_932 (by decide) ?_
  refine x_bipush (v := 116) dX12_init_933 (by decide) ?_
  obtain ⟨c304, H⟩ := chk_o H
  refine x_cast dX12_init_935 c300 (inb_in.mp c304) ?_
  refine x_dup dX12_init_936 rfl ?_
  refine x_iconst (v := 3) dX12_init_937 (by decide) ?_
  refine x_bipush (v := 101) dX12_init_938 (by decide) ?_
  obtain ⟨c305, H⟩ := chk_o H
  refine x_cast dX12_init_940 c300 (inb_in.mp c305) ?_
  refine x_dup dX12_init_941 rfl ?_
  refine x_iconst (v := 4) dX12_init_942 (by decide) ?_
  refine x_bipush (v := 110) dX12_init_943 (by decide) ?_
  obtain ⟨c306, H⟩ := chk_o H
  refine x_cast dX12_init_945 c300 (inb_in.mp c306) ?_
  obtain ⟨c307, H⟩ := ko_o H
  refine x_putR fl_X12_141 dX12_init_946 c307 (fun _ => rfl) rfl ?_
  refine x_aload_n dX12_init_949 rfl 0 rfl ?_
  refine x_iconst (v := 5) dX12_init_950 (by decide) ?_
  obtain ⟨a309, ea309, H⟩ := nm_o H
  obtain ⟨h308, eh308, H⟩ := nm_o H
  refine x_newa (t := .char) (N := 5) dX12_init_951 rfl (by decide) rfl ac_char (by decide) (by decide) (by decide) ?_
  rw [ea309]
  refine Ex.ren eh308 ?_
  refine x_dup dX12_init_953 rfl ?_
  refine x_iconst (v := 0) dX12_init_954 (by decide) ?_
  refine x_bipush (v := 116) dX12_init_955 (by decide) ?_
  obtain ⟨n311, c310, H⟩ := ka_o H
  obtain ⟨c312, H⟩ := chk_o H
  refine x_cast dX12_init_957 c310 (inb_in.mp c312) ?_
  refine x_dup dX12_init_958 rfl ?_
  refine x_iconst (v := 1) dX12_init_959 (by decide) ?_
  refine x_bipush (v := 111) dX12_init_960 (by decide) ?_
  obtain ⟨c313, H⟩ := chk_o H
  refine x_cast dX12_init_962 c310 (inb_in.mp c313) ?_
  refine x_dup dX12_init_963 rfl ?_
  refine x_iconst (v := 2) dX12_init_964 (by decide) ?_
  refine x_bipush (v := 116) dX12_init_965 (by decide) ?_
  obtain ⟨c314, H⟩ := chk_o H
  refine x_cast dX12_init_967 c310 (inb_in.mp c314) ?_
  refine x_dup dX12_init_968 rfl ?_
  refine x_iconst (v := 3) dX12_init_969 (by decide) ?_
  refine x_bipush (v := 97) dX12_init_970 (by decide) ?_
  obtain ⟨c315, H⟩ := chk_o H
  refine x_cast dX12_init_972 c310 (inb_in.mp c315) ?_
  refine x_dup dX12_init_973 rfl ?_
  refine x_iconst (v := 4) dX12_init_974 (by decide) ?_
  refine x_bipush (v := 108) dX12_init_975 (by decide) ?_
  obtain ⟨c316, H⟩ := chk_o H
  refine x_cast dX12_init_977 c310 (inb_in.mp c316) ?_
  obtain ⟨c317, H⟩ := ko_o H
  refine x_putR fl_X12_144 dX12_init_978 c317 (fun _ => rfl) rfl ?_
  refine x_aload_n dX12_init_981 rfl 0 rfl ?_
  refine x_iconst (v := 4) dX12_init_982 (by decide) ?_
  obtain ⟨a319, ea319, H⟩ := nm_o H
  obtain ⟨h318, eh318, H⟩ := nm_o H
  refine x_newa (t := .char) (N := 4) dX12_init_983 rfl (by decide) rfl ac_char (by decide) (by decide) (by decide) ?_
  rw [ea319]
  refine Ex.ren eh318 ?_
  refine x_dup dX12_init_985 rfl ?_
  refine x_iconst (v := 0) dX12_init_986 (by decide) ?_
  refine x_bipush (v := 109) dX12_init_987 (by decide) ?_
  obtain ⟨n321, c320, H⟩ := ka_o H
  obtain ⟨c322, H⟩ := chk_o H
  refine x_cast dX12_init_989 c320 (inb_in.mp c322) ?_
  refine x_dup dX12_init_990 rfl ?_
  refine x_iconst (v := 1) dX12_init_991 (by decide) ?_
  refine x_bipush (v := 111) dX12_init_992 (by decide) ?_
  obtain ⟨c323, H⟩ := chk_o H
  refine x_cast dX12_init_994 c320 (inb_in.mp c323) ?_
  refine x_dup dX12_init_995 rfl ?_
  refine x_iconst (v := 2) dX12_init_996 (by decide) ?_
  refine x_bipush (v := 115) dX12_init_997 (by decide) ?_
  obtain ⟨c324, H⟩ := chk_o H
  refine x_cast dX12_init_999 c320 (inb_in.mp c324) ?_
  refine x_dup dX12_init_1000 rfl ?_
  refine x_iconst (v := 3) dX12_init_1001 (by decide) ?_
  refine x_bipush (v := 116) dX12_init_1002 (by decide) ?_
  obtain ⟨c325, H⟩ := chk_o H
  refine x_cast dX12_init_1004 c320 (inb_in.mp c325) ?_
  obtain ⟨c326, H⟩ := ko_o H
  refine x_putR fl_X12_147 dX12_init_1005 c326 (fun _ => rfl) rfl ?_
  refine x_aload_n dX12_init_1008 rfl 0 rfl ?_
  refine x_iconst (v := 5) dX12_init_1009 (by decide) ?_
  obtain ⟨a328, ea328, H⟩ := nm_o H
  obtain ⟨h327, eh327, H⟩ := nm_o H
  refine x_newa (t := .char) (N := 5) dX12_init_1010 rfl (by decide) rfl ac_char (by decide) (by decide) (by decide) ?_
  rw [ea328]
  refine Ex.ren eh327 ?_
  refine x_dup dX12_init_1012 rfl ?_
  refine x_iconst (v := 0) dX12_init_1013 (by decide) ?_
  refine x_bipush (v := 108) dX12_init_1014 (by decide) ?_
  obtain ⟨n330, c329, H⟩ := ka_o H
  obtain ⟨c331, H⟩ := chk_o H
  refine x_cast dX12_init_1016 c329 (inb_in.mp c331) ?_
  refine x_dup dX12_init_1017 rfl ?_
  refine x_iconst (v := 1) dX12_init_1018 (by decide) ?_
  refine x_bipush (v := 101) dX12_init_1019 (by decide) ?_
  obtain ⟨c332, H⟩ := chk_o H
  refine x_cast dX12_init_1021 c329 (inb_in.mp c332) ?_
  refine x_dup dX12_init_1022 rfl ?_
  refine x_iconst (v := 2) dX12_init_1023 (by decide) ?_
  refine x_bipush (v := 97) dX12_init_1024 (by decide) ?_
  obtain ⟨c333, H⟩ := chk_o H
  refine x_cast dX12_init_1026 c329 (inb_in.mp c333) ?_
  refine x_dup dX12_init_1027 rfl ?_
  refine x_iconst (v := 3) dX12_init_1028 (by decide) ?_
  refine x_bipush (v := 115) dX12_init_1029 (by decide) ?_
  obtain ⟨c334, H⟩ := chk_o H
  refine x_cast dX12_init_1031 c329 (inb_in.mp c334) ?_
  refine x_dup dX12_init_1032 rfl ?_
  refine x_iconst (v := 4) dX12_init_1033 (by decide) ?_
  refine x_bipush (v := 116) dX12_init_1034 (by decide) ?_
  obtain ⟨c335, H⟩ := chk_o H
  refine x_cast dX12_init_1036 c329 (inb_in.mp c335) ?_
  obtain ⟨c336, H⟩ := ko_o H
  refine x_putR fl_X12_150 dX12_init_1037 c336 (fun _ => rfl) rfl ?_
  refine x_aload_n dX12_init_1040 rfl 0 rfl ?_
  refine x_iconst (v := 3) dX12_init_1041 (by decide) ?_
  obtain ⟨a338, ea338, H⟩ := nm_o H
  obtain ⟨h337, eh337, H⟩ := nm_o H
  refine x_newa (t := .char) (N := 3) dX12_init_1042 rfl (by decide) rfl ac_char (by decide) (by decide) (by decide) ?_
  rw [ea338]
  refine Ex.ren eh337 ?_
  refine x_dup dX12_init_1044 rfl ?_
  refine x_iconst (v := 0) dX12_init_1045 (by decide) ?_
  refine x_bipush (v := 110) dX12_init_1046 (by decide) ?_
  obtain ⟨n340, c339, H⟩ := ka_o H
  obtain ⟨c341, H⟩ := chk_o H
  refine x_cast dX12_init_1048 c339 (inb_in.mp c341) ?_
  refine x_dup dX12_init_1049 rfl ?_
  refine x_iconst (v := 1) dX12_init_1050 (by decide) ?_
  refine x_bipush (v := 111) dX12_init_1051 (by decide) ?_
  obtain ⟨c342, H⟩ := chk_o H
  refine x_cast dX12_init_1053 c339 (inb_in.mp c342) ?_
  refine x_dup dX12_init_1054 rfl ?_
  refine x_iconst (v := 2) dX12_init_1055 (by decide) ?_
  refine x_bipush (v := 116) dX12_init_1056 (by decide) ?_
  obtain ⟨c343, H⟩ := chk_o H
  refine x_cast dX12_init_1058 c339 (inb_in.mp c343) ?_
  obtain ⟨c344, H⟩ := ko_o H
  refine x_putR fl_X12_153 dX12_init_1059 c344 (fun _ => rfl) rfl ?_
  refine x_aload_n dX12_init_1062 rfl 0 rfl ?_
  refine x_iconst (v := 3) dX12_init_1063 (by decide) ?_
  obtain ⟨a346, ea346, H⟩ := nm_o H
  obtain ⟨h345, eh345, H⟩ := nm_o H
  refine x_newa (t := .char) (N := 3) dX12_init_1064 rfl (by decide) rfl ac_char (by decide) (by decide) (by decide) ?_
  rw [ea346]
  refine Ex.ren eh345 ?_
  refine x_dup dX12_init_1066 rfl ?_
  refine x_iconst (v := 0) dX12_init_1067 (by decide) ?_
  refine x_bipush (v := 97) dX12_init_1068 (by decide) ?_
  obtain ⟨n348, c347, H⟩ := ka_o H
  obtain ⟨c349, H⟩ := chk_o H
  refine x_cast dX12_init_1070 c347 (inb_in.mp c349) ?_
  refine x_dup dX12_init_1071 rfl ?_
  refine x_iconst (v := 1) dX12_init_1072 (by decide) ?_
  refine x_bipush (v := 110) dX12_init_1073 (by decide) ?_
  obtain ⟨c350, H⟩ := chk_o H
  refine x_cast dX12_init_1075 c347 (inb_in.mp c350) ?_
  refine x_dup dX12_init_1076 rfl ?_
  refine x_iconst (v := 2) dX12_init_1077 (by decide) ?_
  refine x_bipush (v := 100) dX12_init_1078 (by decide) ?_
  obtain ⟨c351, H⟩ := chk_o H
  refine x_cast dX12_init_1080 c347 (inb_in.mp c351) ?_
  obtain ⟨c352, H⟩ := ko_o H
  refine x_putR fl_X12_156 dX12_init_1081 c352 (fun _ => rfl) rfl ?_
  refine x_aload_n dX12_init_1084 rfl 0 rfl ?_
  refine x_iconst (v := 2) dX12_init_1085 (by decide) ?_
  obtain ⟨a354, ea354, H⟩ := nm_o H
  obtain ⟨h353, eh353, H⟩ := nm_o H
  refine x_newa (t := .char) (N := 2) dX12_init_1086 rfl (by decide) rfl ac_char (by decide) (by decide) (by decide) ?_
  rw [ea354]
  refine Ex.ren eh353 ?_
  refine x_dup dX12_init_1088 rfl ?_
  refine x_iconst (v := 0) dX12_init_1089 (by decide) ?_
  refine x_bipush (v := 111) dX12_init_1090 (by decide) ?_
  obtain ⟨n356, c355, H⟩ := ka_o H
  obtain ⟨c357, H⟩ := chk_o H
  refine x_cast dX12_init_1092 c355 (inb_in.mp c357) ?_
  refine x_dup dX12_init_1093 rfl ?_
  refine x_iconst (v := 1) dX12_init_1094 (by decide) ?_
  refine x_bipush (v := 114) dX12_init_1095 (by decide) ?_
  obtain ⟨c358, H⟩ := chk_o H
  refine x_cast dX12_init_1097 c355 (inb_in.mp c358) ?_
  obtain ⟨c359, H⟩ := ko_o H
  refine x_putR fl_X12_159 dX12_init_1098 c359 (fun _ => rfl) rfl ?_
  refine x_aload_n dX12_init_1101 rfl 0 rfl ?_
  refine x_iconst (v := 3) dX12_init_1102 (by decide) ?_
  obtain ⟨a361, ea361, H⟩ := nm_o H
  obtain ⟨h360, eh360, H⟩ := nm_o H
  refine x_newa (t := .char) (N := 3) dX12_init_1103 rfl (by decide) rfl ac_char (by decide) (by decide) (by decide) ?_
  rw [ea361]
  refine Ex.ren eh360 ?_
  refine x_dup dX12_init_1105 rfl ?_
  refine x_iconst (v := 0) dX12_init_1106 (by decide) ?_
  refine x_bipush (v := 97) dX12_init_1107 (by decide) ?_
  obtain ⟨n363, c362, H⟩ := ka_o H
  obtain ⟨c364, H⟩ := chk_o H
  refine x_cast dX12_init_1109 c362 (inb_in.mp c364) ?_
  refine x_dup dX12_init_1110 rfl ?_
  refine x_iconst (v := 1) dX12_init_1111 (by decide) ?_
  refine x_bipush (v := 108) dX12_init_1112 (by decide) ?_
  obtain ⟨c365, H⟩ := chk_o H
  refine x_cast dX12_init_1114 c362 (inb_in.mp c365) ?_
  refine x_dup dX12_init_1115 rfl ?_
  refine x_iconst (v := 2) dX12_init_1116 (by decide) ?_
  refine x_bipush (v := 108) dX12_init_1117 (by decide) ?_
  obtain ⟨c366, H⟩ := chk_o H
  refine x_cast dX12_init_1119 c362 (inb_in.mp c366) ?_
  obtain ⟨c367, H⟩ := ko_o H
  refine x_putR fl_X12_162 dX12_init_1120 c367 (fun _ => rfl) rfl ?_
  refine x_aload_n dX12_init_1123 rfl 0 rfl ?_
  refine x_iconst (v := 3) dX12_init_1124 (by decide) ?_
  obtain ⟨a369, ea369, H⟩ := nm_o H
  obtain ⟨h368, eh368, H⟩ := nm_o H
  refine x_newa (t := .char) (N := 3) dX12_init_1125 rfl (by decide) rfl ac_char (by decide) (by decide) (by decide) ?_
  rw [ea369]
  refine Ex.ren eh368 ?_
  refine x_dup dX12_init_1127 rfl ?_
  refine x_iconst (v := 0) dX12_init_1128 (by decide) ?_
  refine x_bipush (v := 109) dX12_init_1129 (by decide) ?_
  obtain ⟨n371, c370, H⟩ := ka_o H
  obtain ⟨c372, H⟩ := chk_o H
  refine x_cast dX12_init_1131 c370 (inb_in.mp c372) ?_
  refine x_dup dX12_init_1132 rfl ?_
  refine x_iconst (v := 1) dX12_init_1133 (by decide) ?_
  refine x_bipush (v := 105) dX12_init_1134 (by decide) ?_
  obtain ⟨c373, H⟩ := chk_o H
  refine x_cast dX12_init_1136 c370 (inb_in.mp c373) ?_
  refine x_dup dX12_init_1137 rfl ?_
  refine x_iconst (v := 2) dX12_init_1138 (by decide) ?_
  refine x_bipush (v := 110) dX12_init_1139 (by decide) ?_
  obtain ⟨c374, H⟩ := chk_o H
  refine x_cast dX12_init_1141 c370 (inb_in.mp c374) ?_
  obtain ⟨c375, H⟩ := ko_o H
  refine x_putR fl_X12_165 dX12_init_1142 c375 (fun _ => rfl) rfl ?_
  refine x_aload_n dX12_init_1145 rfl 0 rfl ?_
  refine x_iconst (v := 3) dX12_init_1146 (by decide) ?_
  obtain ⟨a377, ea377, H⟩ := nm_o H
  obtain ⟨h376, eh376, H⟩ := nm_o H
  refine x_newa (t := .char) (N := 3) dX12_init_1147 rfl (by decide) rfl ac_char (by decide) (by decide) (by decide) ?_
  rw [ea377]
  refine Ex.ren eh376 ?_
  refine x_dup dX12_init_1149 rfl ?_
  refine x_iconst (v := 0) dX12_init_1150 (by decide) ?_
  refine x_bipush (v := 109) dX12_init_1151 (by decide) ?_
  obtain ⟨n379, c378, H⟩ := ka_o H
  obtain ⟨c380, H⟩ := chk_o H
  refine x_cast dX12_init_1153 c378 (inb_in.mp c380) ?_
  refine x_dup dX12_init_1154 rfl ?_
  refine x_iconst (v := 1) dX12_init_1155 (by decide) ?_
  refine x_bipush (v := 97) dX12_init_1156 (by decide) ?_
  obtain ⟨c381, H⟩ := chk_o H
  refine x_cast dX12_init_1158 c378 (inb_in.mp c381) ?_
  refine x_dup dX12_init_1159 rfl ?_
  refine x_iconst (v := 2) dX12_init_1160 (by decide) ?_
  refine x_bipush (v := 120) dX12_init_1161 (by decide) ?_
  obtain ⟨c382, H⟩ := chk_o H
  refine x_cast dX12_init_1163 c378 (inb_in.mp c382) ?_
  obtain ⟨c383, H⟩ := ko_o H
  refine x_putR fl_X12_168 dX12_init_1164 c383 (fun _ => rfl) rfl ?_
  refine x_aload_n dX12_init_1167 rfl 0 rfl ?_
  refine x_iconst (v := 4) dX12_init_1168 (by decide) ?_
  obtain ⟨a385, ea385, H⟩ := nm_o H
  obtain ⟨h384, eh384, H⟩ := nm_o H
  refine x_newa (t := .char) (N := 4) dX12_init_1169 rfl (by decide) rfl ac_char (by decide) (by decide) (by decide) ?_
  rw [ea385]
  refine Ex.ren eh384 ?_
  refine x_dup dX12_init_1171 rfl ?_
  refine x_iconst (v := 0) dX12_init_1172 (by decide) ?_
  refine x_bipush (v := 110) dX12_init_1173 (by decide) ?_
  obtain ⟨n387, c386, H⟩ := ka_o H
  obtain ⟨c388, H⟩ := chk_o H
  refine x_cast dX12_init_1175 c386 (inb_in.mp c388) ?_
  refine x_dup dX12_init_1176 rfl ?_
  refine x_iconst (v := 1) dX12_init_1177 (by decide) ?_
  refine x_bipush (v := 101) dX12_init_1178 (by decide) ?_
  obtain ⟨c389, H⟩ := chk_o H
  refine x_cast dX12_init_1180 c386 (inb_in.mp c389) ?_
  refine x_dup dX12_init_1181 rfl ?_
  refine x_iconst (v := 2) dX12_init_1182 (by decide) ?_
  refine x_bipush (v := 101) dX12_init_1183 (by decide) ?_
  obtain ⟨c390, H⟩ := chk_o H
  refine x_cast dX12_init_1185 c386 (inb_in.mp c390) ?_
  refine x_dup dX12_init_1186 rfl ?_
  refine x_iconst (v := 3) dX12_init_1187 (by decide) ?_
  refine x_bipush (v := 100) dX12_init_1188 (by decide) ?_
  obtain ⟨c391, H⟩ := chk_o H
  refine x_cast dX12_init_1190 c386 (inb_in.mp c391) ?_
  obtain ⟨c392, H⟩ := ko_o H
  refine x_putR fl_X12_171 dX12_init_1191 c392 (fun _ => rfl) rfl ?_
  refine x_aload_n dX12_init_1194 rfl 0 rfl ?_
  refine x_iconst (v := 5) dX12_init_1195 (by decide) ?_
  obtain ⟨a394, ea394, H⟩ := nm_o H
  obtain ⟨h393, eh393, H⟩ := nm_o H
  refine x_newa (t := .char) (N := 5) dX12_init_1196 rfl (by decide) rfl ac_char (by decide) (by decide) (by decide) ?_
  rw [ea394]
  refine Ex.ren eh393 ?_
  refine x_dup dX12_init_1198 rfl ?_
  refine x_iconst (v := 0) dX12_init_1199 (by decide) ?_
  refine x_bipush (v := 115) dX12_init_1200 (by decide) ?_
  obtain ⟨n396, c395, H⟩ := ka_o H
  obtain ⟨c397, H⟩ := chk_o H
  refine x_cast dX12_init_1202 c395 (inb_in.mp c397) ?_
  refine x_dup dX12_init_1203 rfl ?_
  refine x_iconst (v := 1) dX12_init_1204 (by decide) ?_
  refine x_bipush (v := 116) dX12_init_1205 (by decide) ?_
  obtain ⟨c398, H⟩ := chk_o H
  refine x_cast dX12_init_1207 c395 (inb_in.mp c398) ?_
  refine x_dup dX12_init_1208 rfl ?_
  refine x_iconst (v := 2) dX12_init_1209 (by decide) ?_
  refine x_bipush (v := 97) dX12_init_1210 (by decide) ?_
  obtain ⟨c399, H⟩ := chk_o H
  refine x_cast dX12_init_1212 c395 (inb_in.mp c399) ?_
  refine x_dup dX12_init_1213 rfl ?_
  refine x_iconst (v := 3) dX12_init_1214 (by decide) ?_
  refine x_bipush (v := 114) dX12_init_1215 (by decide) ?_
  obtain ⟨c400, H⟩ := chk_o H
  refine x_cast dX12_init_1217 c395 (inb_in.mp c400) ?_
  refine x_dup dX12_init_1218 rfl ?_
  refine x_iconst (v := 4) dX12_init_1219 (by decide) ?_
  refine x_bipush (v := 116) dX12_init_1220 (by decide) ?_
  obtain ⟨c401, H⟩ := chk_o H
  refine x_cast dX12_init_1222 c395 (inb_in.mp c401) ?_
  obtain ⟨c402, H⟩ := ko_o H
  refine x_putR fl_X12_174 dX12_init_1223 c402 (fun _ => rfl) rfl ?_
  refine x_aload_n dX12_init_1226 rfl 0 rfl ?_
  refine x_iconst (v := 4) dX12_init_1227 (by decide) ?_
  obtain ⟨a404, ea404, H⟩ := nm_o H
  obtain ⟨h403, eh403, H⟩ := nm_o H
  refine x_newa (t := .char) (N := 4) dX12_init_1228 rfl (by decide) rfl ac_char (by decide) (by decide) (by decide) ?_
  rw [ea404]
  refine Ex.ren eh403 ?_
  refine x_dup dX12_init_1230 rfl ?_
  refine x_iconst (v := 0) dX12_init_1231 (by decide) ?_
  refine x_bipush (v := 114) dX12_init_1232 (by decide) ?_
  obtain ⟨n406, c405, H⟩ := ka_o H
  obtain ⟨c407, H⟩ := chk_o H
  refine x_cast dX12_init_1234 c405 (inb_in.mp c407) ?_
  refine x_dup dX12_init_1235 rfl ?_
  refine x_iconst (v := 1) dX12_init_1236 (by decide) ?_
  refine x_bipush (v := 111) dX12_init_1237 (by decide) ?_
  obtain ⟨c408, H⟩ := chk_o H
  refine x_cast dX12_init_1239 c405 (inb_in.mp c408) ?_
  refine x_dup dX12_init_1240 rfl ?_
  refine x_iconst (v := 2) dX12_init_1241 (by decide) ?_
  refine x_bipush (v := 111) dX12_init_1242 (by decide) ?_
  obtain ⟨c409, H⟩ := chk_o H
  refine x_cast dX12_init_1244 c405 (inb_in.mp c409) ?_
  refine x_dup dX12_init_1245 rfl ?_
  refine x_iconst (v := 3) dX12_init_1246 (by decide) ?_
  refine x_bipush (v := 109) dX12_init_1247 (by decide) ?_
  obtain ⟨c410, H⟩ := chk_o H
  refine x_cast dX12_init_1249 c405 (inb_in.mp c410) ?_
  obtain ⟨c411, H⟩ := ko_o H
  refine x_putR fl_X12_177 dX12_init_1250 c411 (fun _ => rfl) rfl ?_
  refine x_aload_n dX12_init_1253 rfl 0 rfl ?_
  refine x_iconst (v := 2) dX12_init_1254 (by decide) ?_
  obtain ⟨a413, ea413, H⟩ := nm_o H
  obtain ⟨h412, eh412, H⟩ := nm_o H
  refine x_newa (t := .char) (N := 2) dX12_init_1255 rfl (by decide) rfl ac_char (by decide) (by decide) (by decide) ?_
  rw [ea413]
  refine Ex.ren eh412 ?_
  refine x_dup dX12_init_1257 rfl ?_
  refine x_iconst (v := 0) dX12_init_1258 (by decide) ?_
  refine x_bipush (v := 97) dX12_init_1259 (by decide) ?_
  obtain ⟨n415, c414, H⟩ := ka_o H
  obtain ⟨c416, H⟩ := chk_o H
  refine x_cast dX12_init_1261 c414 (inb_in.mp c416) ?_
  refine x_dup dX12_init_1262 rfl ?_
  refine x_iconst (v := 1) dX12_init_1263 (by decide) ?_
  refine x_bipush (v := 116) dX12_init_1264 (by decide) ?_
  obtain ⟨c417, H⟩ := chk_o H
  refine x_cast dX12_init_1266 c414 (inb_in.mp c417) ?_
  obtain ⟨c418, H⟩ := ko_o H
  refine x_putR fl_X12_180 dX12_init_1267 c418 (fun _ => rfl) rfl ?_
  refine x_aload_n dX12_init_1270 rfl 0 rfl ?_
  refine x_iconst (v := 4) dX12_init_1271 (by decide) ?_
  obtain ⟨a420, ea420, H⟩ := nm_o H
  obtain ⟨h419, eh419, H⟩ := nm_o H
  refine x_newa (t := .char) (N := 4) dX12_init_1272 rfl (by decide) rfl ac_char (by decide) (by decide) (by decide) ?_
  rw [ea420]
  refine Ex.ren eh419 ?_
  refine x_dup dX12_init_1274 rfl ?_
  refine x_iconst (v := 0) dX12_init_1275 (by decide) ?_
  refine x_bipush (v := 98) dX12_init_1276 (by decide) ?_
  obtain ⟨n422, c421, H⟩ := ka_o H
  obtain ⟨c423, H⟩ := chk_o H
  refine x_cast dX12_init_1278 c421 (inb_in.mp c423) ?_
  refine x_dup dX12_init_1279 rfl ?_
  refine x_iconst (v := 1) dX12_init_1280 (by decide) ?_
  refine x_bipush (v := 97) dX12_init_1281 (by decide) ?_
  obtain ⟨c424, H⟩ := chk_o H
  refine x_cast dX12_init_1283 c421 (inb_in.mp c424) ?_
  refine x_dup dX12_init_1284 rfl ?_
  refine x_iconst (v := 2) dX12_init_1285 (by decide) ?_
  refine x_bipush (v := 115) dX12_init_1286 (by decide) ?_
  obtain ⟨c425, H⟩ := chk_o H
  refine x_cast dX12_init_1288 c421 (inb_in.mp c425) ?_
  refine x_dup dX12_init_1289 rfl ?_
  refine x_iconst (v := 3) dX12_init_1290 (by decide) ?_
  refine x_bipush (v := 101) dX12_init_1291 (by decide) ?_
  obtain ⟨c426, H⟩ := chk_o H
  refine x_cast dX12_init_1293 c421 (inb_in.mp c426) ?_
  obtain ⟨c427, H⟩ := ko_o H
  refine x_putR fl_X12_183 dX12_init_1294 c427 (fun _ => rfl) rfl ?_
  refine x_aload_n dX12_init_1297 rfl 0 rfl ?_
  refine x_bipush (v := 6) dX12_init_1298 (by decide) ?_
  obtain ⟨a429, ea429, H⟩ := nm_o H
  obtain ⟨h428, eh428, H⟩ := nm_o H
  refine x_newa (t := .char) (N := 6) dX12_init_1300 rfl (by decide) rfl ac_char (by decide) (by decide) (by decide) ?_
  rw [ea429]
  refine Ex.ren eh428 ?_
  refine x_dup dX12_init_1302 rfl ?_
  refine x_iconst (v := 0) dX12_init_1303 (by decide) ?_
  refine x_bipush (v := 108) dX12_init_1304 (by decide) ?_
  obtain ⟨n431, c430, H⟩ := ka_o H
  obtain ⟨c432, H⟩ := chk_o H
  refine x_cast dX12_init_1306 c430 (inb_in.mp c432) ?_
  refine x_dup dX12_init_1307 rfl ?_
  refine x_iconst (v := 1) dX12_init_1308 (by decide) ?_
  refine x_bipush (v := 101) dX12_init_1309 (by decide) ?_
  obtain ⟨c433, H⟩ := chk_o H
  refine x_cast dX12_init_1311 c430 (inb_in.mp c433) ?_
  refine x_dup dX12_init_1312 rfl ?_
  refine x_iconst (v := 2) dX12_init_1313 (by decide) ?_
  refine x_bipush (v := 110) dX12_init_1314 (by decide) ?_
  obtain ⟨c434, H⟩ := chk_o H
  refine x_cast dX12_init_1316 c430 (inb_in.mp c434) ?_
  refine x_dup dX12_init_1317 rfl ?_
  refine x_iconst (v := 3) dX12_init_1318 (by decide) ?_
  refine x_bipush (v := 103) dX12_init_1319 (by decide) ?_
  obtain ⟨c435, H⟩ := chk_o H
  refine x_cast dX12_init_1321 c430 (inb_in.mp c435) ?_
  refine x_dup dX12_init_1322 rfl ?_
  refine x_iconst (v := 4) dX12_init_1323 (by decide) ?_
  refine x_bipush (v := 116) dX12_init_1324 (by decide) ?_
  obtain ⟨c436, H⟩ := chk_o H
  refine x_cast dX12_init_1326 c430 (inb_in.mp c436) ?_
  refine x_dup dX12_init_1327 rfl ?_
  refine x_iconst (v := 5) dX12_init_1328 (by decide) ?_
  refine x_bipush (v := 104) dX12_init_1329 (by decide) ?_
  obtain ⟨c437, H⟩ := chk_o H
  refine x_cast dX12_init_1331 c430 (inb_in.mp c437) ?_
  obtain ⟨c438, H⟩ := ko_o H
  refine x_putR fl_X12_186 dX12_init_1332 c438 (fun _ => rfl) rfl ?_
  refine x_aload_n dX12_init_1335 rfl 0 rfl ?_
  refine x_iconst (v := 5) dX12_init_1336 (by decide) ?_
  obtain ⟨a440, ea440, H⟩ := nm_o H
  obtain ⟨h439, eh439, H⟩ := nm_o H
  refine x_newa (t := .char) (N := 5) dX12_init_1337 rfl (by decide) rfl ac_char (by decide) (by decide) (by decide) ?_
  rw [ea440]
  refine Ex.ren eh439 ?_
  refine x_dup dX12_init_1339 rfl ?_
  refine x_iconst (v := 0) dX12_init_1340 (by decide) ?_
  refine x_bipush (v := 112) dX12_init_1341 (by decide) ?_
  obtain ⟨n442, c441, H⟩ := ka_o H
  obtain ⟨c443, H⟩ := chk_o H
  refine x_cast dX12_init_1343 c441 (inb_in.mp c443) ?_
  refine x_dup dX12_init_1344 rfl ?_
  refine x_iconst (v := 1) dX12_init_1345 (by decide) ?_
  refine x_bipush (v := 101) dX12_init_1346 (by decide) ?_
  obtain ⟨c444, H⟩ := chk_o H
  refine x_cast dX12_init_1348 c441 (inb_in.mp c444) ?_
  refine x_dup dX12_init_1349 rfl ?_
  refine x_iconst (v := 2) dX12_init_1350 (by decide) ?_
  refine x_bipush (v := 114) dX12_init_1351 (by decide) ?_
  obtain ⟨c445, H⟩ := chk_o H
  refine x_cast dX12_init_1353 c441 (inb_in.mp c445) ?_
  refine x_dup dX12_init_1354 rfl ?_
  refine x_iconst (v := 3) dX12_init_1355 (by decide) ?_
  refine x_bipush (v := 109) dX12_init_1356 (by decide) ?_
  obtain ⟨c446, H⟩ := chk_o H
  refine x_cast dX12_init_1358 c441 (inb_in.mp c446) ?_
  refine x_dup dX12_init_1359 rfl ?_
  refine x_iconst (v := 4) dX12_init_1360 (by decide) ?_
  refine x_bipush (v := 115) dX12_init_1361 (by decide) ?_
  obtain ⟨c447, H⟩ := chk_o H
  refine x_cast dX12_init_1363 c441 (inb_in.mp c447) ?_
  obtain ⟨c448, H⟩ := ko_o H
  refine x_putR fl_X12_189 dX12_init_1364 c448 (fun _ => rfl) rfl ?_
  refine x_aload_n dX12_init_1367 rfl 0 rfl ?_
  refine x_bipush (v := 6) dX12_init_1368 (by decide) ?_
  obtain ⟨a450, ea450, H⟩ := nm_o H
  obtain ⟨h449, eh449, H⟩ := nm_o H
  refine x_newa (t := .char) (N := 6) dX12_init_1370 rfl (by decide) rfl ac_char (by decide) (by decide) (by decide) ?_
  rw [ea450]
  refine Ex.ren eh449 ?_
  refine x_dup dX12_init_1372 rfl ?_
  refine x_iconst (v := 0) dX12_init_1373 (by decide) ?_
  refine x_bipush (v := 110) dX12_init_1374 (by decide) ?_
  obtain ⟨n452, c451, H⟩ := ka_o H
  obtain ⟨c453, H⟩ := chk_o H
  refine x_cast dX12_init_1376 c451 (inb_in.mp c453) ?_
  refine x_dup dX12_init_1377 rfl ?_
  refine x_iconst (v := 1) dX12_init_1378 (by decide) ?_
  refine x_bipush (v := 117) dX12_init_1379 (by decide) ?_
  obtain ⟨c454, H⟩ := chk_o H
  refine x_cast dX12_init_1381 c451 (inb_in.mp c454) ?_
  refine x_dup dX12_init_1382 rfl ?_
  refine x_iconst (v := 2) dX12_init_1383 (by decide) ?_
  refine x_bipush (v := 109) dX12_init_1384 (by decide) ?_
  obtain ⟨c455, H⟩ := chk_o H
  refine x_cast dX12_init_1386 c451 (inb_in.mp c455) ?_
  refine x_dup dX12_init_1387 rfl ?_
  refine x_iconst (v := 3) dX12_init_1388 (by decide) ?_
  refine x_bipush (v := 98) dX12_init_1389 (by decide) ?_
  obtain ⟨c456, H⟩ := chk_o H
  refine x_cast dX12_init_1391 c451 (inb_in.mp c456) ?_
  refine x_dup dX12_init_1392 rfl ?_
  refine x_iconst (v := 4) dX12_init_1393 (by decide) ?_
  refine x_bipush (v := 101) dX12_init_1394 (by decide) ?_
  obtain ⟨c457, H⟩ := chk_o H
  refine x_cast dX12_init_1396 c451 (inb_in.mp c457) ?_
  refine x_dup dX12_init_1397 rfl ?_
  refine x_iconst (v := 5) dX12_init_1398 (by decide) ?_
  refine x_bipush (v := 114) dX12_init_1399 (by decide) ?_
  obtain ⟨c458, H⟩ := chk_o H
  refine x_cast dX12_init_1401 c451 (inb_in.mp c458) ?_
  obtain ⟨c459, H⟩ := ko_o H
  refine x_putR fl_X12_192 dX12_init_1402 c459 (fun _ => rfl) rfl ?_
  refine x_aload_n dX12_init_1405 rfl 0 rfl ?_
  refine x_iconst (v := 3) dX12_init_1406 (by decide) ?_
  obtain ⟨a461, ea461, H⟩ := nm_o H
  obtain ⟨h460, eh460, H⟩ := nm_o H
  refine x_newa (t := .char) (N := 3) dX12_init_1407 rfl (by decide) rfl ac_char (by decide) (by decide) (by decide) ?_
  rw [ea461]
  refine Ex.ren eh460 ?_
  refine x_dup dX12_init_1409 rfl ?_
  refine x_iconst (v := 0) dX12_init_1410 (by decide) ?_
  refine x_bipush (v := 101) dX12_init_1411 (by decide) ?_
  obtain ⟨n463, c462, H⟩ := ka_o H
  obtain ⟨c464, H⟩ := chk_o H
  refine x_cast dX12_init_1413 c462 (inb_in.mp c464) ?_
  refine x_dup dX12_init_1414 rfl ?_
  refine x_iconst (v := 1) dX12_init_1415 (by decide) ?_
  refine x_bipush (v := 120) dX12_init_1416 (by decide) ?_
  obtain ⟨c465, H⟩ := chk_o H
  refine x_cast dX12_init_1418 c462 (inb_in.mp c465) ?_
  refine x_dup dX12_init_1419 rfl ?_
  refine x_iconst (v := 2) dX12_init_1420 (by decide) ?_
  refine x_bipush (v := 112) dX12_init_1421 (by decide) ?_
  obtain ⟨c466, H⟩ := chk_o H
  refine x_cast dX12_init_1423 c462 (inb_in.mp c466) ?_
  obtain ⟨c467, H⟩ := ko_o H
  refine x_putR fl_X12_195 dX12_init_1424 c467 (fun _ => rfl) rfl ?_
  refine x_aload_n dX12_init_1427 rfl 0 rfl ?_
  refine x_iconst (v := 4) dX12_init_1428 (by decide) ?_
  obtain ⟨a469, ea469, H⟩ := nm_o H
  obtain ⟨h468, eh468, H⟩ := nm_o H
  refine x_newa (t := .char) (N := 4) dX12_init_1429 rfl (by decide) rfl ac_char (by decide) (by decide) (by decide) ?_
  rw [ea469]
  refine Ex.ren eh468 ?_
  refine x_dup dX12_init_1431 rfl ?_
  refine x_iconst (v := 0) dX12_init_1432 (by decide) ?_
  refine x_bipush (v := 107) dX12_init_1433 (by decide) ?_
  obtain ⟨n471, c470, H⟩ := ka_o H
  obtain ⟨c472, H⟩ := chk_o H
  refine x_cast dX12_init_1435 c470 (inb_in.mp c472) ?_
  refine x_dup dX12_init_1436 rfl ?_
  refine x_iconst (v := 1) dX12_init_1437 (by decide) ?_
  refine x_bipush (v := 105) dX12_init_1438 (by decide) ?_
  obtain ⟨c473, H⟩ := chk_o H
  refine x_cast dX12_init_1440 c470 (inb_in.mp c473) ?_
  refine x_dup dX12_init_1441 rfl ?_
  refine x_iconst (v := 2) dX12_init_1442 (by decide) ?_
  refine x_bipush (v := 110) dX12_init_1443 (by decide) ?_
  obtain ⟨c474, H⟩ := chk_o H
  refine x_cast dX12_init_1445 c470 (inb_in.mp c474) ?_
  refine x_dup dX12_init_1446 rfl ?_
  refine x_iconst (v := 3) dX12_init_1447 (by decide) ?_
  refine x_bipush (v := 100) dX12_init_1448 (by decide) ?_
  obtain ⟨c475, H⟩ := chk_o H
  refine x_cast dX12_init_1450 c470 (inb_in.mp c475) ?_
  obtain ⟨c476, H⟩ := ko_o H
  refine x_putR fl_X12_198 dX12_init_1451 c476 (fun _ => rfl) rfl ?_
  refine x_aload_n dX12_init_1454 rfl 0 rfl ?_
  refine x_iconst (v := 5) dX12_init_1455 (by decide) ?_
  obtain ⟨a478, ea478, H⟩ := nm_o H
  obtain ⟨h477, eh477, H⟩ := nm_o H
  refine x_newa (t := .char) (N := 5) dX12_init_1456 rfl (by decide) rfl ac_char (by decide) (by decide) (by decide) ?_
  rw [ea478]
  refine Ex.ren eh477 ?_
  refine x_dup dX12_init_1458 rfl ?_
  refine x_iconst (v := 0) dX12_init_1459 (by decide) ?_
  refine x_bipush (v := 118) dX12_init_1460 (by decide) ?_
  obtain ⟨n480, c479, H⟩ := ka_o H
  obtain ⟨c481, H⟩ := chk_o H
  refine x_cast dX12_init_1462 c479 (inb_in.mp c481) ?_
  refine x_dup dX12_init_1463 rfl ?_
  refine x_iconst (v := 1) dX12_init_1464 (by decide) ?_
  refine x_bipush (v := 97) dX12_init_1465 (by decide) ?_
  obtain ⟨c482, H⟩ := chk_o H
  refine x_cast dX12_init_1467 c479 (inb_in.mp c482) ?_
  refine x_dup dX12_init_1468 rfl ?_
  refine x_iconst (v := 2) dX12_init_1469 (by decide) ?_
  refine x_bipush (v := 108) dX12_init_1470 (by decide) ?_
  obtain ⟨c483, H⟩ := chk_o H
  refine x_cast dX12_init_1472 c479 (inb_in.mp c483) ?_
  refine x_dup dX12_init_1473 rfl ?_
  refine x_iconst (v := 3) dX12_init_1474 (by decide) ?_
  refine x_bipush (v := 105) dX12_init_1475 (by decide) ?_
  obtain ⟨c484, H⟩ := chk_o H
  refine x_cast dX12_init_1477 c479 (inb_in.mp c484) ?_
  refine x_dup dX12_init_1478 rfl ?_
  refine x_iconst (v := 4) dX12_init_1479 (by decide) ?_
  refine x_bipush (v := 100) dX12_init_1480 (by decide) ?_
  obtain ⟨c485, H⟩ := chk_o H
  refine x_cast dX12_init_1482 c479 (inb_in.mp c485) ?_
  obtain ⟨c486, H⟩ := ko_o H
  refine x_putR fl_X12_201 dX12_init_1483 c486 (fun _ => rfl) rfl ?_
  refine x_aload_n dX12_init_1486 rfl 0 rfl ?_
  refine x_iconst (v := 4) dX12_init_1487 (by decide) ?_
  obtain ⟨a488, ea488, H⟩ := nm_o H
  obtain ⟨h487, eh487, H⟩ := nm_o H
  refine x_newa (t := .char) (N := 4) dX12_init_1488 rfl (by decide) rfl ac_char (by decide) (by decide) (by decide) ?_
  rw [ea488]
  refine Ex.ren eh487 ?_
  refine x_dup dX12_init_1490 rfl ?_
  refine x_iconst (v := 0) dX12_init_1491 (by decide) ?_
  refine x_bipush (v := 102) dX12_init_1492 (by decide) ?_
  obtain ⟨n490, c489, H⟩ := ka_o H
  obtain ⟨c491, H⟩ := chk_o H
  refine x_cast dX12_init_1494 c489 (inb_in.mp c491) ?_
  refine x_dup dX12_init_1495 rfl ?_
  refine x_iconst (v := 1) dX12_init_1496 (by decide) ?_
  refine x_bipush (v := 114) dX12_init_1497 (by decide) ?_
  obtain ⟨c492, H⟩ := chk_o H
  refine x_cast dX12_init_1499 c489 (inb_in.mp c492) ?_
  refine x_dup dX12_init_1500 rfl ?_
  refine x_iconst (v := 2) dX12_init_1501 (by decide) ?_
  refine x_bipush (v := 111) dX12_init_1502 (by decide) ?_
  obtain ⟨c493, H⟩ := chk_o H
  refine x_cast dX12_init_1504 c489 (inb_in.mp c493) ?_
  refine x_dup dX12_init_1505 rfl ?_
  refine x_iconst (v := 3) dX12_init_1506 (by decide) ?_
  refine x_bipush (v := 109) dX12_init_1507 (by decide) ?_
  obtain ⟨c494, H⟩ := chk_o H
  refine x_cast dX12_init_1509 c489 (inb_in.mp c494) ?_
  obtain ⟨c495, H⟩ := ko_o H
  refine x_putR fl_X12_204 dX12_init_1510 c495 (fun _ => rfl) rfl ?_
  refine x_aload_n dX12_init_1513 rfl 0 rfl ?_
  refine x_iconst (v := 4) dX12_init_1514 (by decide) ?_
  obtain ⟨a497, ea497, H⟩ := nm_o H
  obtain ⟨h496, eh496, H⟩ := nm_o H
  refine x_newa (t := .char) (N := 4) dX12_init_1515 rfl (by decide) rfl ac_char (by decide) (by decide) (by decide) ?_
  rw [ea497]
  refine Ex.ren eh496 ?_
  refine x_dup dX12_init_1517 rfl ?_
  refine x_iconst (v := 0) dX12_init_1518 (by decide) ?_
  refine x_bipush (v := 102) dX12_init_1519 (by decide) ?_
  obtain ⟨n499, c498, H⟩ := ka_o H
  obtain ⟨c500, H⟩ := chk_o H
  refine x_cast dX12_init_1521 c498 (inb_in.mp c500) ?_
  refine x_dup dX12_init_1522 rfl ?_
  refine x_iconst (v := 1) dX12_init_1523 (by decide) ?_
  refine x_bipush (v := 105) dX12_init_1524 (by decide) ?_
  obtain ⟨c501, H⟩ := chk_o H
  refine x_cast dX12_init_1526 c498 (inb_in.mp c501) ?_
  refine x_dup dX12_init_1527 rfl ?_
  refine x_iconst (v := 2) dX12_init_1528 (by decide) ?_
  refine x_bipush (v := 116) dX12_init_1529 (by decide) ?_
  obtain ⟨c502, H⟩ := chk_o H
  refine x_cast dX12_init_1531 c498 (inb_in.mp c502) ?_
  refine x_dup dX12_init_1532 rfl ?_
  refine x_iconst (v := 3) dX12_init_1533 (by decide) ?_
  refine x_bipush (v := 115) dX12_init_1534 (by decide) ?_
  obtain ⟨c503, H⟩ := chk_o H
  refine x_cast dX12_init_1536 c498 (inb_in.mp c503) ?_
  obtain ⟨c504, H⟩ := ko_o H
  refine x_putR fl_X12_207 dX12_init_1537 c504 (fun _ => rfl) rfl ?_
  refine x_aload_n dX12_init_1540 rfl 0 rfl ?_
  refine x_sipush (v := 1700) dX12_init_1541 (by decide) ?_
  obtain ⟨a506, ea506, H⟩ := nm_o H
  obtain ⟨h505, eh505, H⟩ := nm_o H
  refine x_newa (t := .int) (N := 1700) dX12_init_1544 rfl (by decide) rfl ac_int (by decide) (by decide) (by decide) ?_
  rw [ea506]
  refine Ex.ren eh505 ?_
  obtain ⟨c507, H⟩ := ko_o H
  refine x_putR fl_X12_210 dX12_init_1546 c507 (fun _ => rfl) rfl ?_
  refine x_aload_n dX12_init_1549 rfl 0 rfl ?_
  refine x_sipush (v := 1700) dX12_init_1550 (by decide) ?_
  obtain ⟨a509, ea509, H⟩ := nm_o H
  obtain ⟨h508, eh508, H⟩ := nm_o H
  refine x_newa (t := .int) (N := 1700) dX12_init_1553 rfl (by decide) rfl ac_int (by decide) (by decide) (by decide) ?_
  rw [ea509]
  refine Ex.ren eh508 ?_
  obtain ⟨c510, H⟩ := ko_o H
  refine x_putR fl_X12_213 dX12_init_1555 c510 (fun _ => rfl) rfl ?_
  refine x_aload_n dX12_init_1558 rfl 0 rfl ?_
  refine x_sipush (v := 1700) dX12_init_1559 (by decide) ?_
  obtain ⟨a512, ea512, H⟩ := nm_o H
  obtain ⟨h511, eh511, H⟩ := nm_o H
  refine x_newa (t := .long) (N := 1700) dX12_init_1562 rfl (by decide) rfl ac_long (by decide) (by decide) (by decide) ?_
  rw [ea512]
  refine Ex.ren eh511 ?_
  obtain ⟨c513, H⟩ := ko_o H
  refine x_putR fl_X12_216 dX12_init_1564 c513 (fun _ => rfl) rfl ?_
  refine x_aload_n dX12_init_1567 rfl 0 rfl ?_
  refine x_sipush (v := 450) dX12_init_1568 (by decide) ?_
  obtain ⟨a515, ea515, H⟩ := nm_o H
  obtain ⟨h514, eh514, H⟩ := nm_o H
  refine x_newa (t := .int) (N := 450) dX12_init_1571 rfl (by decide) rfl ac_int (by decide) (by decide) (by decide) ?_
  rw [ea515]
  refine Ex.ren eh514 ?_
  obtain ⟨c516, H⟩ := ko_o H
  refine x_putR fl_X12_219 dX12_init_1573 c516 (fun _ => rfl) rfl ?_
  obtain ⟨-, rfl⟩ := so_1 H
  exact x_vret dX12_init_1576 rfl
