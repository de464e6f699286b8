def f_X12_copy_23 (x0 : Nat) (h : aH) : Option (Int32 × aH) :=
  ko h x0 11 <|
  bd (f_X12_isRefused x0 3 h) fun v1 h2 =>
  chk (narrow .boolean (.int v1) = .int v1) <|
  some (v1, h2)
set_option maxRecDepth 100000 in
set_option maxHeartbeats 4000000 in
theorem t_X12_copy_23 {Γ : gS} {d : Nat} (hd : 2 ≤ d) {x0 : Nat} {h : aH} {r : Int32} {h' : aH} (H : f_X12_copy_23 x0 h = some (r, h')) : Ex Γ gX12_copy d 23 [(0, .ref x0)] [] h (some (.int r)) h' := by
  unfold f_X12_copy_23 at H
  obtain ⟨d, rfl⟩ : ∃ e, d = e + 1 := ⟨d - 1, by omega⟩
  refine x_aload_n dX12_copy_23 rfl 0 rfl ?_
  refine x_iconst (v := 3) dX12_copy_24 (by decide) ?_
  obtain ⟨c5, H⟩ := ko_o H
  obtain ⟨v1, h2, hc3, H⟩ := bd_o H
  refine x_callVi (As := [.int 3]) (q := (RX12, TX12, 103)) dX12_copy_25 mi_X12_isRefused lk_X12_540 im_X12_isRefused se_X12_isRefused rfl c5 rfl rfl (Nat.le_of_ble_eq_true rfl) (t_X12_isRefused (by omega) hc3) ?_
  obtain ⟨c4, H⟩ := chk_o H
  obtain ⟨rfl, rfl⟩ := so_1 H
  exact x_iret dX12_copy_28 rfl c4
def f_X12_copy (x0 : Nat) (x1 : Int32) (x2 : Int32) (h : aH) : Option (Int32 × aH) :=
  ko h x0 11 <|
  bd (f_X12_isPointer x0 x1.toInt64 h) fun v6 h7 =>
  if v6 = 0 then
    f_X12_copy_23 x0 h7
  else
    ko h7 x0 11 <|
    bd (f_X12_isPointer x0 x2.toInt64 h7) fun v10 h11 =>
    if v10 = 0 then
      f_X12_copy_23 x0 h11
    else
      if x1 = x2 then
        f_X12_copy_23 x0 h11
      else
        ko h11 x0 11 <|
        bd (f_X12_keeps x0 h11) fun _ h16 =>
        ko h16 x0 11 <|
        bd (f_X12_copies x0 (8 * x1) (8 * x2) h16) fun _ h19 =>
        some (1, h19)
set_option maxRecDepth 100000 in
set_option maxHeartbeats 4000000 in
theorem t_X12_copy {Γ : gS} {d : Nat} (hd : 2 ≤ d) {x0 : Nat} {x1 : Int32} {x2 : Int32} {h : aH} {r : Int32} {h' : aH} (H : f_X12_copy x0 x1 x2 h = some (r, h')) : Mx Γ gX12_copy d [.ref x0, .int x1, .int x2] h (some (.int r)) h' := by
  refine Mx.of (by decide +kernel) (Nat.le_of_ble_eq_true rfl) ?_
  unfold f_X12_copy at H
  show Ex Γ gX12_copy d 0 [(0, .ref x0), (1, .int x1), (2, .int x2)] [] h (some (.int r)) h'
  obtain ⟨d, rfl⟩ : ∃ e, d = e + 1 := ⟨d - 1, by omega⟩
  refine x_aload_n dX12_copy_0 rfl 0 rfl ?_
  refine x_iload_n dX12_copy_1 rfl 1 rfl ?_
  refine x_i2l dX12_copy_2 ?_
  obtain ⟨c24, H⟩ := ko_o H
  obtain ⟨v6, h7, hc8, H⟩ := bd_o H
  refine x_callVi (As := [.long x1.toInt64]) (q := (RX12, TX12, 103)) dX12_copy_3 mi_X12_isPointer lk_X12_418 im_X12_isPointer se_X12_isPointer rfl c24 rfl rfl (Nat.le_of_ble_eq_true rfl) (t_X12_isPointer (by omega) hc8) ?_
  refine x_if_eq (tgt := 23) dX12_copy_6 (by decide) (fun c9 => ?_) (fun c9 => ?_)
  · replace H := ite_p H c9
    refine Ex.sub [0] rfl ?_
    exact t_X12_copy_23 hd H
  · replace H := ite_m H c9
    refine x_aload_n dX12_copy_9 rfl 0 rfl ?_
    refine x_iload_n dX12_copy_10 rfl 2 rfl ?_
    refine x_i2l dX12_copy_11 ?_
    obtain ⟨c23, H⟩ := ko_o H
    obtain ⟨v10, h11, hc12, H⟩ := bd_o H
    refine x_callVi (As := [.long x2.toInt64]) (q := (RX12, TX12, 103)) dX12_copy_12 mi_X12_isPointer lk_X12_418 im_X12_isPointer se_X12_isPointer rfl c23 rfl rfl (Nat.le_of_ble_eq_true rfl) (t_X12_isPointer (by omega) hc12) ?_
    refine x_if_eq (tgt := 23) dX12_copy_15 (by decide) (fun c13 => ?_) (fun c13 => ?_)
    · replace H := ite_p H c13
      refine Ex.sub [0] rfl ?_
      exact t_X12_copy_23 hd H
    · replace H := ite_m H c13
      refine x_iload_n dX12_copy_18 rfl 1 rfl ?_
      refine x_iload_n dX12_copy_19 rfl 2 rfl ?_
      refine x_icmp_ne (tgt := 29) dX12_copy_20 (by decide) (fun c14 => ?_) (fun c14 => ?_)
      · replace H := ite_m H c14
        refine x_aload_n dX12_copy_29 rfl 0 rfl ?_
        obtain ⟨c22, H⟩ := ko_o H
        obtain ⟨v15, h16, hc17, H⟩ := bd_o H
        refine x_callVv (As := []) (q := (RX12, TX12, 103)) dX12_copy_30 mi_X12_keeps lk_X12_528 im_X12_keeps se_X12_keeps rfl c22 rfl rfl (Nat.le_of_ble_eq_true rfl) (t_X12_keeps (by omega) hc17) ?_
        refine x_aload_n dX12_copy_33 rfl 0 rfl ?_
        refine x_bipush (v := 8) dX12_copy_34 (by decide) ?_
        refine x_iload_n dX12_copy_36 rfl 1 rfl ?_
        refine x_imul dX12_copy_37 ?_
        refine x_bipush (v := 8) dX12_copy_38 (by decide) ?_
        refine x_iload_n dX12_copy_40 rfl 2 rfl ?_
        refine x_imul dX12_copy_41 ?_
        obtain ⟨c21, H⟩ := ko_o H
        obtain ⟨v18, h19, hc20, H⟩ := bd_o H
        refine x_callVv (As := [.int (8 * x1), .int (8 * x2)]) (q := (RX12, TX12, 103)) dX12_copy_42 mi_X12_copies lk_X12_543 im_X12_copies se_X12_copies rfl c21 rfl rfl (Nat.le_of_ble_eq_true rfl) (t_X12_copies (by omega) hc20) ?_
        refine x_iconst (v := 1) dX12_copy_45 (by decide) ?_
        obtain ⟨rfl, rfl⟩ := so_1 H
        exact x_iret dX12_copy_46 rfl (by decide)
      · replace H := ite_p H c14
        refine Ex.sub [0] rfl ?_
        exact t_X12_copy_23 hd H
def f_X12_move_38 (x0 : Nat) (h : aH) : Option (Int32 × aH) :=
  ko h x0 11 <|
  bd (f_X12_isRefused x0 3 h) fun v1 h2 =>
  chk (narrow .boolean (.int v1) = .int v1) <|
  some (v1, h2)
set_option maxRecDepth 100000 in
set_option maxHeartbeats 4000000 in
theorem t_X12_move_38 {Γ : gS} {d : Nat} (hd : 6 ≤ d) {x0 : Nat} {h : aH} {r : Int32} {h' : aH} (H : f_X12_move_38 x0 h = some (r, h')) : Ex Γ gX12_move d 38 [(0, .ref x0)] [] h (some (.int r)) h' := by
  unfold f_X12_move_38 at H
  obtain ⟨d, rfl⟩ : ∃ e, d = e + 1 := ⟨d - 1, by omega⟩
  refine x_aload_n dX12_move_38 rfl 0 rfl ?_
  refine x_iconst (v := 3) dX12_move_39 (by decide) ?_
  obtain ⟨c5, H⟩ := ko_o H
  obtain ⟨v1, h2, hc3, H⟩ := bd_o H
  refine x_callVi (As := [.int 3]) (q := (RX12, TX12, 103)) dX12_move_40 mi_X12_isRefused lk_X12_540 im_X12_isRefused se_X12_isRefused rfl c5 rfl rfl (Nat.le_of_ble_eq_true rfl) (t_X12_isRefused (by omega) hc3) ?_
  obtain ⟨c4, H⟩ := chk_o H
  obtain ⟨rfl, rfl⟩ := so_1 H
  exact x_iret dX12_move_43 rfl c4
def f_X12_move_134 (s0 : Int32) (h : aH) : Option (Int32 × aH) :=
  chk (narrow .boolean (.int s0) = .int s0) <|
  some (s0, h)
set_option maxRecDepth 100000 in
set_option maxHeartbeats 4000000 in
theorem t_X12_move_134 {Γ : gS} {d : Nat} (hd : 6 ≤ d) {s0 : Int32} {h : aH} {r : Int32} {h' : aH} (H : f_X12_move_134 s0 h = some (r, h')) : Ex Γ gX12_move d 134 [] [.int s0] h (some (.int r)) h' := by
  unfold f_X12_move_134 at H
  obtain ⟨d, rfl⟩ : ∃ e, d = e + 1 := ⟨d - 1, by omega⟩
  obtain ⟨c6, H⟩ := chk_o H
  obtain ⟨rfl, rfl⟩ := so_1 H
  exact x_iret dX12_move_134 rfl c6
def f_X12_move_119 (x0 : Nat) (x3 : Int32) (h : aH) : Option (Int32 × aH) :=
  ko h x0 11 <|
  kr (hR h x0 47) fun a8 =>
  ka h a8 .int fun n11 =>
  chk (inb x3 n11 = true) <|
  if (hI h a8 x3.toNatClampNeg) = 1 then
    f_X12_move_134 1 h
  else
    f_X12_move_134 0 h
set_option maxRecDepth 100000 in
set_option maxHeartbeats 4000000 in
theorem t_X12_move_119 {Γ : gS} {d : Nat} (hd : 6 ≤ d) {x0 : Nat} {x3 : Int32} {h : aH} {r : Int32} {h' : aH} (H : f_X12_move_119 x0 x3 h = some (r, h')) : Ex Γ gX12_move d 119 [(0, .ref x0), (3, .int x3)] [] h (some (.int r)) h' := by
  unfold f_X12_move_119 at H
  obtain ⟨d, rfl⟩ : ∃ e, d = e + 1 := ⟨d - 1, by omega⟩
  refine x_aload_n dX12_move_119 rfl 0 rfl ?_
  obtain ⟨c7, H⟩ := ko_o H
  obtain ⟨a8, c9, H⟩ := kr_o H
  refine x_getR fr_X12_115 dX12_move_120 c7 rfl c9 ?_
  refine x_iload_n dX12_move_123 rfl 1 rfl ?_
  obtain ⟨n11, c10, H⟩ := ka_o H
  obtain ⟨c12, H⟩ := chk_o H
  refine x_iald dX12_move_124 c10 (inb_in.mp c12) ?_
  refine x_iconst (v := 1) dX12_move_125 (by decide) ?_
  refine x_icmp_ne (tgt := 133) dX12_move_126 (by decide) (fun c13 => ?_) (fun c13 => ?_)
  · replace H := ite_m H c13
    refine x_iconst (v := 0) dX12_move_133 (by decide) ?_
    refine Ex.sub [] rfl ?_
    exact t_X12_move_134 hd H
  · replace H := ite_p H c13
    refine x_iconst (v := 1) dX12_move_129 (by decide) ?_
    refine x_goto (tgt := 134) dX12_move_130 (by decide) ?_
    refine Ex.sub [] rfl ?_
    exact t_X12_move_134 hd H
def f_X12_move (x0 : Nat) (x1 : Int32) (x2 : Int32) (h : aH) : Option (Int32 × aH) :=
  ko h x0 11 <|
  bd (f_X12_isPointer x0 x1.toInt64 h) fun v14 h15 =>
  if v14 = 0 then
    f_X12_move_38 x0 h15
  else
    ko h15 x0 11 <|
    kr (hR h15 x0 47) fun a19 =>
    ka h15 a19 .int fun n22 =>
    chk (inb ((8 * x1) + 6) n22 = true) <|
    if (hI h15 a19 ((8 * x1) + 6 : Int32).toNatClampNeg) = 0 then
      bd (f_X12_isIn x2.toInt64 (-4095) 4095 h15) fun v25 h26 =>
      if v25 = 0 then
        f_X12_move_38 x0 h26
      else
        ko h26 x0 11 <|
        bd (f_X12_keeps x0 h26) fun _ h30 =>
        nm (8 * x1) fun (v32 : Int32) =>
        ko h30 x0 11 <|
        bd (f_X12_doesFit x0 v32 x2 h30) fun v33 h34 =>
        ko h34 x0 11 <|
        kr (hR h34 x0 47) fun a37 =>
        ka h34 a37 .int fun n40 =>
        chk (inb (v32 + 1) n40 = true) <|
        if v33 = 0 then
          chk (inb v32 n40 = true) <|
          nm (hI (sI h34 a37 (v32 + 1 : Int32).toNatClampNeg (((hI h34 a37 (v32 + 1 : Int32).toNatClampNeg) + x2) &&& 4095)) a37 v32.toNatClampNeg) fun (v44 : Int32) =>
          if v44 = 1 then
            nm (hI (sI (sI h34 a37 (v32 + 1 : Int32).toNatClampNeg (((hI h34 a37 (v32 + 1 : Int32).toNatClampNeg) + x2) &&& 4095)) a37 v32.toNatClampNeg 0) a37 (v32 + 1 : Int32).toNatClampNeg) fun (v46 : Int32) =>
            bd (f_X12_isKept x0 2 x1 v46 (sI (sI h34 a37 (v32 + 1 : Int32).toNatClampNeg (((hI h34 a37 (v32 + 1 : Int32).toNatClampNeg) + x2) &&& 4095)) a37 v32.toNatClampNeg 0)) fun _ h48 =>
            f_X12_move_119 x0 v32 h48
          else
            f_X12_move_119 x0 v32 (sI h34 a37 (v32 + 1 : Int32).toNatClampNeg (((hI h34 a37 (v32 + 1 : Int32).toNatClampNeg) + x2) &&& 4095))
        else
          f_X12_move_119 x0 v32 (sI h34 a37 (v32 + 1 : Int32).toNatClampNeg (((hI h34 a37 (v32 + 1 : Int32).toNatClampNeg) + x2) &&& 4095))
    else
      f_X12_move_38 x0 h15
set_option maxRecDepth 100000 in
set_option maxHeartbeats 4000000 in
theorem t_X12_move {Γ : gS} {d : Nat} (hd : 6 ≤ d) {x0 : Nat} {x1 : Int32} {x2 : Int32} {h : aH} {r : Int32} {h' : aH} (H : f_X12_move x0 x1 x2 h = some (r, h')) : Mx Γ gX12_move d [.ref x0, .int x1, .int x2] h (some (.int r)) h' := by
  refine Mx.of (by decide +kernel) (Nat.le_of_ble_eq_true rfl) ?_
  unfold f_X12_move at H
  show Ex Γ gX12_move d 0 [(0, .ref x0), (1, .int x1), (2, .int x2)] [] h (some (.int r)) h'
  obtain ⟨d, rfl⟩ : ∃ e, d = e + 1 := ⟨d - 1, by omega⟩
  refine x_aload_n dX12_move_0 rfl 0 rfl ?_
  refine x_iload_n dX12_move_1 rfl 1 rfl ?_
  refine x_i2l dX12_move_2 ?_
  obtain ⟨c52, H⟩ := ko_o H
  obtain ⟨v14, h15, hc16, H⟩ := bd_o H
  refine x_callVi (As := [.long x1.toInt64]) (q := (RX12, TX12, 103)) dX12_move_3 mi_X12_isPointer lk_X12_418 im_X12_isPointer se_X12_isPointer rfl c52 rfl rfl (Nat.le_of_ble_eq_true rfl) (t_X12_isPointer (by omega) hc16) ?_
  refine x_if_eq (tgt := 38) dX12_move_6 (by decide) (fun c17 => ?_) (fun c17 => ?_)
  · replace H := ite_p H c17
    refine Ex.sub [0] rfl ?_
    exact t_X12_move_38 hd H
  · replace H := ite_m H c17
    refine x_aload_n dX12_move_9 rfl 0 rfl ?_
    obtain ⟨c18, H⟩ := ko_o H
    obtain ⟨a19, c20, H⟩ := kr_o H
    refine x_getR fr_X12_115 dX12_move_10 c18 rfl c20 ?_
    refine x_bipush (v := 8) dX12_move_13 (by decide) ?_
    refine x_iload_n dX12_move_15 rfl 1 rfl ?_
    refine x_imul dX12_move_16 ?_
    refine x_bipush (v := 6) dX12_move_17 (by decide) ?_
    refine x_iadd dX12_move_19 ?_
    obtain ⟨n22, c21, H⟩ := ka_o H
    obtain ⟨c23, H⟩ := chk_o H
    refine x_iald dX12_move_20 c21 (inb_in.mp c23) ?_
    refine x_if_ne (tgt := 38) dX12_move_21 (by decide) (fun c24 => ?_) (fun c24 => ?_)
    · replace H := ite_m H c24
      refine Ex.sub [0] rfl ?_
      exact t_X12_move_38 hd H
    · replace H := ite_p H c24
      refine x_iload_n dX12_move_24 rfl 2 rfl ?_
      refine x_i2l dX12_move_25 ?_
      refine x_ldc2 kc_X12_494 dX12_move_26 ?_
      refine x_ldc2 kc_X12_496 dX12_move_29 ?_
      obtain ⟨v25, h26, hc27, H⟩ := bd_o H
      refine x_callSi (As := [.long x2.toInt64, .long (-4095), .long 4095]) dX12_move_32 mi_X12_isIn lk_X12_268 sm_X12_isIn rfl rfl (Nat.le_of_ble_eq_true rfl) (t_X12_isIn (by omega) hc27) ?_
      refine x_if_ne (tgt := 44) dX12_move_35 (by decide) (fun c28 => ?_) (fun c28 => ?_)
      · replace H := ite_m H c28
        refine x_aload_n dX12_move_44 rfl 0 rfl ?_
        obtain ⟨c51, H⟩ := ko_o H
        obtain ⟨v29, h30, hc31, H⟩ := bd_o H
        refine x_callVv (As := []) (q := (RX12, TX12, 103)) dX12_move_45 mi_X12_keeps lk_X12_528 im_X12_keeps se_X12_keeps rfl c51 rfl rfl (Nat.le_of_ble_eq_true rfl) (t_X12_keeps (by omega) hc31) ?_
        refine x_bipush (v := 8) dX12_move_48 (by decide) ?_
        refine x_iload_n dX12_move_50 rfl 1 rfl ?_
        refine x_imul dX12_move_51 ?_
        obtain ⟨v32, ev32, H⟩ := nm_o H
        refine x_istore_n (lv' := [(3, .int v32), (0, .ref x0), (1, .int x1), (2, .int x2)]) dX12_move_52 rfl (by decide) ev32 rfl ?_
        refine x_aload_n dX12_move_53 rfl 1 rfl ?_
        refine x_iload_n dX12_move_54 rfl 0 rfl ?_
        refine x_iload_n dX12_move_55 rfl 3 rfl ?_
        obtain ⟨c50, H⟩ := ko_o H
        obtain ⟨v33, h34, hc35, H⟩ := bd_o H
        refine x_callVi (As := [.int v32, .int x2]) (q := (RX12, TX12, 103)) dX12_move_56 mi_X12_doesFit lk_X12_498 im_X12_doesFit se_X12_doesFit rfl c50 rfl rfl (Nat.le_of_ble_eq_true rfl) (t_X12_doesFit (by omega) hc35) ?_
        refine x_istore (lv' := [(4, .int v33), (3, .int v32), (0, .ref x0), (1, .int x1), (2, .int x2)]) dX12_move_59 (by decide) rfl rfl ?_
        refine x_aload_n dX12_move_61 rfl 2 rfl ?_
        obtain ⟨c36, H⟩ := ko_o H
        obtain ⟨a37, c38, H⟩ := kr_o H
        refine x_getR fr_X12_115 dX12_move_62 c36 rfl c38 ?_
        refine x_iload_n dX12_move_65 rfl 1 rfl ?_
        refine x_iconst (v := 1) dX12_move_66 (by decide) ?_
        refine x_iadd dX12_move_67 ?_
        refine x_aload_n dX12_move_68 rfl 2 rfl ?_
        refine x_getR fr_X12_115 dX12_move_69 c36 rfl c38 ?_
        refine x_iload_n dX12_move_72 rfl 1 rfl ?_
        refine x_iconst (v := 1) dX12_move_73 (by decide) ?_
        refine x_iadd dX12_move_74 ?_
        obtain ⟨n40, c39, H⟩ := ka_o H
        obtain ⟨c41, H⟩ := chk_o H
        refine x_iald dX12_move_75 c39 (inb_in.mp c41) ?_
        refine x_iload_n dX12_move_76 rfl 4 rfl ?_
        refine x_iadd dX12_move_77 ?_
        refine x_sipush (v := 4095) dX12_move_78 (by decide) ?_
        refine x_iand dX12_move_81 ?_
        refine x_iast dX12_move_82 c39 (inb_in.mp c41) ?_
        refine x_iload dX12_move_83 0 rfl ?_
        refine x_if_ne (tgt := 119) dX12_move_85 (by decide) (fun c42 => ?_) (fun c42 => ?_)
        · replace H := ite_m H c42
          refine Ex.sub [2, 1] rfl ?_
          exact t_X12_move_119 hd H
        · replace H := ite_p H c42
          refine x_aload_n dX12_move_88 rfl 2 rfl ?_
          refine x_getR fr_X12_115 dX12_move_89 c36 rfl c38 ?_
          refine x_iload_n dX12_move_92 rfl 1 rfl ?_
          obtain ⟨c43, H⟩ := chk_o H
          obtain ⟨v44, ev44, H⟩ := nm_o H
          refine x_ialde dX12_move_93 c39 (inb_in.mp c43) ev44 ?_
          refine x_iconst (v := 1) dX12_move_94 (by decide) ?_
          refine x_icmp_ne (tgt := 119) dX12_move_95 (by decide) (fun c45 => ?_) (fun c45 => ?_)
          · replace H := ite_m H c45
            refine Ex.sub [2, 1] rfl ?_
            exact t_X12_move_119 hd H
          · replace H := ite_p H c45
            refine x_aload_n dX12_move_98 rfl 2 rfl ?_
            refine x_getR fr_X12_115 dX12_move_99 c36 rfl c38 ?_
            refine x_iload_n dX12_move_102 rfl 1 rfl ?_
            refine x_iconst (v := 0) dX12_move_103 (by decide) ?_
            refine x_iast dX12_move_104 c39 (inb_in.mp c43) ?_
            refine x_aload_n dX12_move_105 rfl 2 rfl ?_
            refine x_iconst (v := 2) dX12_move_106 (by decide) ?_
            refine x_iload_n dX12_move_107 rfl 3 rfl ?_
            refine x_aload_n dX12_move_108 rfl 2 rfl ?_
            refine x_getR fr_X12_115 dX12_move_109 c36 rfl c38 ?_
            refine x_iload_n dX12_move_112 rfl 1 rfl ?_
            refine x_iconst (v := 1) dX12_move_113 (by decide) ?_
            refine x_iadd dX12_move_114 ?_
            obtain ⟨v46, ev46, H⟩ := nm_o H
            refine x_ialde dX12_move_115 c39 (inb_in.mp c41) ev46 ?_
            obtain ⟨v47, h48, hc49, H⟩ := bd_o H
            refine x_callVv (As := [.int 2, .int x1, .int v46]) (q := (RX12, TX12, 103)) dX12_move_116 mi_X12_isKept lk_X12_457 im_X12_isKept se_X12_isKept rfl c36 rfl rfl (Nat.le_of_ble_eq_true rfl) (t_X12_isKept (by omega) hc49) ?_
            refine Ex.sub [2, 1] rfl ?_
            exact t_X12_move_119 hd H
      · replace H := ite_p H c28
        refine Ex.sub [0] rfl ?_
        exact t_X12_move_38 hd H
def f_X12_narrow_36 (x0 : Nat) (h : aH) : Option (Int32 × aH) :=
  ko h x0 11 <|
  bd (f_X12_refuses x0 3 h) fun v1 h2 =>
  some (v1, h2)
set_option maxRecDepth 100000 in
set_option maxHeartbeats 4000000 in
theorem t_X12_narrow_36 {Γ : gS} {d : Nat} (hd : 5 ≤ d) {x0 : Nat} {h : aH} {r : Int32} {h' : aH} (H : f_X12_narrow_36 x0 h = some (r, h')) : Ex Γ gX12_narrow d 36 [(0, .ref x0)] [] h (some (.int r)) h' := by
  unfold f_X12_narrow_36 at H
  obtain ⟨d, rfl⟩ : ∃ e, d = e + 1 := ⟨d - 1, by omega⟩
  refine x_aload_n dX12_narrow_36 rfl 0 rfl ?_
  refine x_iconst (v := 3) dX12_narrow_37 (by decide) ?_
  obtain ⟨c4, H⟩ := ko_o H
  obtain ⟨v1, h2, hc3, H⟩ := bd_o H
  refine x_callVi (As := [.int 3]) (q := (RX12, TX12, 103)) dX12_narrow_38 mi_X12_refuses lk_X12_345 im_X12_refuses se_X12_refuses rfl c4 rfl rfl (Nat.le_of_ble_eq_true rfl) (t_X12_refuses (by omega) hc3) ?_
  obtain ⟨rfl, rfl⟩ := so_1 H
  exact x_iret dX12_narrow_41 rfl rfl
def f_X12_narrow_95 (x0 : Nat) (h : aH) : Option (Int32 × aH) :=
  ko h x0 11 <|
  bd (f_X12_refuses x0 3 h) fun v5 h6 =>
  some (v5, h6)
set_option maxRecDepth 100000 in
set_option maxHeartbeats 4000000 in
theorem t_X12_narrow_95 {Γ : gS} {d : Nat} (hd : 5 ≤ d) {x0 : Nat} {h : aH} {r : Int32} {h' : aH} (H : f_X12_narrow_95 x0 h = some (r, h')) : Ex Γ gX12_narrow d 95 [(0, .ref x0)] [] h (some (.int r)) h' := by
  unfold f_X12_narrow_95 at H
  obtain ⟨d, rfl⟩ : ∃ e, d = e + 1 := ⟨d - 1, by omega⟩
  refine x_aload_n dX12_narrow_95 rfl 0 rfl ?_
  refine x_iconst (v := 3) dX12_narrow_96 (by decide) ?_
  obtain ⟨c8, H⟩ := ko_o H
  obtain ⟨v5, h6, hc7, H⟩ := bd_o H
  refine x_callVi (As := [.int 3]) (q := (RX12, TX12, 103)) dX12_narrow_97 mi_X12_refuses lk_X12_345 im_X12_refuses se_X12_refuses rfl c8 rfl rfl (Nat.le_of_ble_eq_true rfl) (t_X12_refuses (by omega) hc7) ?_
  obtain ⟨rfl, rfl⟩ := so_1 H
  exact x_iret dX12_narrow_100 rfl rfl
def f_X12_narrow (x0 : Nat) (x1 : Int32) (x2 : Int32) (x3 : Int32) (h : aH) : Option (Int32 × aH) :=
  ko h x0 11 <|
  bd (f_X12_isOpen x0 x1 h) fun v9 h10 =>
  if v9 = 0 then
    f_X12_narrow_36 x0 h10
  else
    ko h10 x0 11 <|
    bd (f_X12_isPointer x0 x2.toInt64 h10) fun v13 h14 =>
    if v13 = 0 then
      f_X12_narrow_36 x0 h14
    else
      ko h14 x0 11 <|
      kr (hR h14 x0 47) fun a18 =>
      ka h14 a18 .int fun n21 =>
      chk (inb ((8 * x1) + 1) n21 = true) <|
      bd (f_X12_areBounds x0 (hI h14 a18 ((8 * x1) + 1 : Int32).toNatClampNeg) x3 h14) fun v23 h24 =>
      if v23 = 0 then
        f_X12_narrow_36 x0 h24
      else
        nm (8 * x1) fun (v27 : Int32) =>
        ko h24 x0 11 <|
        bd (f_X12_baseOf x0 v27 h24) fun v28 h29 =>
        ko h29 x0 11 <|
        kr (hR h29 x0 47) fun a32 =>
        ka h29 a32 .int fun n35 =>
        chk (inb (v27 + 1) n35 = true) <|
        bd (f_X12_encodes x0 (hI h29 a32 (v27 + 1 : Int32).toNatClampNeg) x3 h29) fun _ h38 =>
        ko h38 x0 11 <|
        if (hI h38 x0 53) < v28 then
          f_X12_narrow_95 x0 h38
        else
          bd (f_X12_lengthOf x0 v27 h38) fun v42 h43 =>
          if (hI h38 x0 54) ≤ (v28 + v42) then
            ko h43 x0 11 <|
            bd (f_X12_keeps x0 h43) fun _ h47 =>
            ko h47 x0 11 <|
            bd (f_X12_copies x0 v27 (8 * x2) h47) fun _ h50 =>
            ko h50 x0 11 <|
            bd (f_X12_laysBounds x0 (8 * x2) h50) fun _ h53 =>
            ko h53 x0 11 <|
            some ((hI h53 x0 54) - (hI h53 x0 53), h53)
          else
            f_X12_narrow_95 x0 h43
set_option maxRecDepth 100000 in
set_option maxHeartbeats 4000000 in
theorem t_X12_narrow {Γ : gS} {d : Nat} (hd : 5 ≤ d) {x0 : Nat} {x1 : Int32} {x2 : Int32} {x3 : Int32} {h : aH} {r : Int32} {h' : aH} (H : f_X12_narrow x0 x1 x2 x3 h = some (r, h')) : Mx Γ gX12_narrow d [.ref x0, .int x1, .int x2, .int x3] h (some (.int r)) h' := by
  refine Mx.of (by decide +kernel) (Nat.le_of_ble_eq_true rfl) ?_
  unfold f_X12_narrow at H
  show Ex Γ gX12_narrow d 0 [(0, .ref x0), (1, .int x1), (2, .int x2), (3, .int x3)] [] h (some (.int r)) h'
  obtain ⟨d, rfl⟩ : ∃ e, d = e + 1 := ⟨d - 1, by omega⟩
  refine x_aload_n dX12_narrow_0 rfl 0 rfl ?_
  refine x_iload_n dX12_narrow_1 rfl 1 rfl ?_
  obtain ⟨c61, H⟩ := ko_o H
  obtain ⟨v9, h10, hc11, H⟩ := bd_o H
  refine x_callVi (As := [.int x1]) (q := (RX12, TX12, 103)) dX12_narrow_2 mi_X12_isOpen lk_X12_460 im_X12_isOpen se_X12_isOpen rfl c61 rfl rfl (Nat.le_of_ble_eq_true rfl) (t_X12_isOpen (by omega) hc11) ?_
  refine x_if_eq (tgt := 36) dX12_narrow_5 (by decide) (fun c12 => ?_) (fun c12 => ?_)
  · replace H := ite_p H c12
    refine Ex.sub [0] rfl ?_
    exact t_X12_narrow_36 hd H
  · replace H := ite_m H c12
    refine x_aload_n dX12_narrow_8 rfl 0 rfl ?_
    refine x_iload_n dX12_narrow_9 rfl 2 rfl ?_
    refine x_i2l dX12_narrow_10 ?_
    obtain ⟨c60, H⟩ := ko_o H
    obtain ⟨v13, h14, hc15, H⟩ := bd_o H
    refine x_callVi (As := [.long x2.toInt64]) (q := (RX12, TX12, 103)) dX12_narrow_11 mi_X12_isPointer lk_X12_418 im_X12_isPointer se_X12_isPointer rfl c60 rfl rfl (Nat.le_of_ble_eq_true rfl) (t_X12_isPointer (by omega) hc15) ?_
    refine x_if_eq (tgt := 36) dX12_narrow_14 (by decide) (fun c16 => ?_) (fun c16 => ?_)
    · replace H := ite_p H c16
      refine Ex.sub [0] rfl ?_
      exact t_X12_narrow_36 hd H
    · replace H := ite_m H c16
      refine x_aload_n dX12_narrow_17 rfl 0 rfl ?_
      refine x_aload_n dX12_narrow_18 rfl 0 rfl ?_
      obtain ⟨c17, H⟩ := ko_o H
      obtain ⟨a18, c19, H⟩ := kr_o H
      refine x_getR fr_X12_115 dX12_narrow_19 c17 rfl c19 ?_
      refine x_bipush (v := 8) dX12_narrow_22 (by decide) ?_
      refine x_iload_n dX12_narrow_24 rfl 1 rfl ?_
      refine x_imul dX12_narrow_25 ?_
      refine x_iconst (v := 1) dX12_narrow_26 (by decide) ?_
      refine x_iadd dX12_narrow_27 ?_
      obtain ⟨n21, c20, H⟩ := ka_o H
      obtain ⟨c22, H⟩ := chk_o H
      refine x_iald dX12_narrow_28 c20 (inb_in.mp c22) ?_
      refine x_iload_n dX12_narrow_29 rfl 3 rfl ?_
      obtain ⟨v23, h24, hc25, H⟩ := bd_o H
      refine x_callVi (As := [.int (hI h14 a18 ((8 * x1) + 1 : Int32).toNatClampNeg), .int x3]) (q := (RX12, TX12, 103)) dX12_narrow_30 mi_X12_areBounds lk_X12_487 im_X12_areBounds se_X12_areBounds rfl c17 rfl rfl (Nat.le_of_ble_eq_true rfl) (t_X12_areBounds (by omega) hc25) ?_
      refine x_if_ne (tgt := 42) dX12_narrow_33 (by decide) (fun c26 => ?_) (fun c26 => ?_)
      · replace H := ite_m H c26
        refine x_bipush (v := 8) dX12_narrow_42 (by decide) ?_
        refine x_iload_n dX12_narrow_44 rfl 1 rfl ?_
        refine x_imul dX12_narrow_45 ?_
        obtain ⟨v27, ev27, H⟩ := nm_o H
        refine x_istore (lv' := [(4, .int v27), (0, .ref x0), (1, .int x1), (2, .int x2), (3, .int x3)]) dX12_narrow_46 (by decide) ev27 rfl ?_
        refine x_aload_n dX12_narrow_48 rfl 1 rfl ?_
        refine x_iload dX12_narrow_49 0 rfl ?_
        obtain ⟨c59, H⟩ := ko_o H
        obtain ⟨v28, h29, hc30, H⟩ := bd_o H
        refine x_callVi (As := [.int v27]) (q := (RX12, TX12, 103)) dX12_narrow_51 mi_X12_baseOf lk_X12_412 im_X12_baseOf se_X12_baseOf rfl c59 rfl rfl (Nat.le_of_ble_eq_true rfl) (t_X12_baseOf (by omega) hc30) ?_
        refine x_istore (lv' := [(5, .int v28), (4, .int v27), (0, .ref x0), (1, .int x1), (2, .int x2), (3, .int x3)]) dX12_narrow_54 (by decide) rfl rfl ?_
        refine x_aload_n dX12_narrow_56 rfl 2 rfl ?_
        refine x_aload_n dX12_narrow_57 rfl 2 rfl ?_
        obtain ⟨c31, H⟩ := ko_o H
        obtain ⟨a32, c33, H⟩ := kr_o H
        refine x_getR fr_X12_115 dX12_narrow_58 c31 rfl c33 ?_
        refine x_iload dX12_narrow_61 1 rfl ?_
        refine x_iconst (v := 1) dX12_narrow_63 (by decide) ?_
        refine x_iadd dX12_narrow_64 ?_
        obtain ⟨n35, c34, H⟩ := ka_o H
        obtain ⟨c36, H⟩ := chk_o H
        refine x_iald dX12_narrow_65 c34 (inb_in.mp c36) ?_
        refine x_iload_n dX12_narrow_66 rfl 5 rfl ?_
        obtain ⟨v37, h38, hc39, H⟩ := bd_o H
        refine x_callVv (As := [.int (hI h29 a32 (v27 + 1 : Int32).toNatClampNeg), .int x3]) (q := (RX12, TX12, 103)) dX12_narrow_67 mi_X12_encodes lk_X12_356 im_X12_encodes se_X12_encodes rfl c31 rfl rfl (Nat.le_of_ble_eq_true rfl) (t_X12_encodes (by omega) hc39) ?_
        refine x_aload_n dX12_narrow_70 rfl 2 rfl ?_
        obtain ⟨c40, H⟩ := ko_o H
        refine x_getI fr_X12_390 dX12_narrow_71 c40 rfl ?_
        refine x_iload dX12_narrow_74 0 rfl ?_
        refine x_icmp_lt (tgt := 95) dX12_narrow_76 (by decide) (fun c41 => ?_) (fun c41 => ?_)
        · replace H := ite_p H c41
          refine Ex.sub [2] rfl ?_
          exact t_X12_narrow_95 hd H
        · replace H := ite_m H c41
          refine x_aload_n dX12_narrow_79 rfl 2 rfl ?_
          refine x_getI fr_X12_393 dX12_narrow_80 c40 rfl ?_
          refine x_iload dX12_narrow_83 0 rfl ?_
          refine x_aload_n dX12_narrow_85 rfl 2 rfl ?_
          refine x_iload dX12_narrow_86 1 rfl ?_
          obtain ⟨v42, h43, hc44, H⟩ := bd_o H
          refine x_callVi (As := [.int v27]) (q := (RX12, TX12, 103)) dX12_narrow_88 mi_X12_lengthOf lk_X12_415 im_X12_lengthOf se_X12_lengthOf rfl c40 rfl rfl (Nat.le_of_ble_eq_true rfl) (t_X12_lengthOf (by omega) hc44) ?_
          refine x_iadd dX12_narrow_91 ?_
          refine x_icmp_le (tgt := 101) dX12_narrow_92 (by decide) (fun c45 => ?_) (fun c45 => ?_)
          · replace H := ite_p H c45
            refine x_aload_n dX12_narrow_101 rfl 2 rfl ?_
            obtain ⟨c58, H⟩ := ko_o H
            obtain ⟨v46, h47, hc48, H⟩ := bd_o H
            refine x_callVv (As := []) (q := (RX12, TX12, 103)) dX12_narrow_102 mi_X12_keeps lk_X12_528 im_X12_keeps se_X12_keeps rfl c58 rfl rfl (Nat.le_of_ble_eq_true rfl) (t_X12_keeps (by omega) hc48) ?_
            refine x_aload_n dX12_narrow_105 rfl 2 rfl ?_
            refine x_iload dX12_narrow_106 1 rfl ?_
            refine x_bipush (v := 8) dX12_narrow_108 (by decide) ?_
            refine x_iload_n dX12_narrow_110 rfl 4 rfl ?_
            refine x_imul dX12_narrow_111 ?_
            obtain ⟨c57, H⟩ := ko_o H
            obtain ⟨v49, h50, hc51, H⟩ := bd_o H
            refine x_callVv (As := [.int v27, .int (8 * x2)]) (q := (RX12, TX12, 103)) dX12_narrow_112 mi_X12_copies lk_X12_543 im_X12_copies se_X12_copies rfl c57 rfl rfl (Nat.le_of_ble_eq_true rfl) (t_X12_copies (by omega) hc51) ?_
            refine x_aload_n dX12_narrow_115 rfl 2 rfl ?_
            refine x_bipush (v := 8) dX12_narrow_116 (by decide) ?_
            refine x_iload_n dX12_narrow_118 rfl 4 rfl ?_
            refine x_imul dX12_narrow_119 ?_
            obtain ⟨c56, H⟩ := ko_o H
            obtain ⟨v52, h53, hc54, H⟩ := bd_o H
            refine x_callVv (As := [.int (8 * x2)]) (q := (RX12, TX12, 103)) dX12_narrow_120 mi_X12_laysBounds lk_X12_359 im_X12_laysBounds se_X12_laysBounds rfl c56 rfl rfl (Nat.le_of_ble_eq_true rfl) (t_X12_laysBounds (by omega) hc54) ?_
            refine x_aload_n dX12_narrow_123 rfl 2 rfl ?_
            obtain ⟨c55, H⟩ := ko_o H
            refine x_getI fr_X12_393 dX12_narrow_124 c55 rfl ?_
            refine x_aload_n dX12_narrow_127 rfl 2 rfl ?_
            refine x_getI fr_X12_390 dX12_narrow_128 c55 rfl ?_
            refine x_isub dX12_narrow_131 ?_
            obtain ⟨rfl, rfl⟩ := so_1 H
            exact x_iret dX12_narrow_132 rfl rfl
          · replace H := ite_m H c45
            refine Ex.sub [2] rfl ?_
            exact t_X12_narrow_95 hd H
      · replace H := ite_p H c26
        refine Ex.sub [0] rfl ?_
        exact t_X12_narrow_36 hd H
def f_X12_limit_36 (x0 : Nat) (h : aH) : Option (Int32 × aH) :=
  ko h x0 11 <|
  bd (f_X12_refuses x0 3 h) fun v1 h2 =>
  some (v1, h2)
set_option maxRecDepth 100000 in
set_option maxHeartbeats 4000000 in
theorem t_X12_limit_36 {Γ : gS} {d : Nat} (hd : 2 ≤ d) {x0 : Nat} {h : aH} {r : Int32} {h' : aH} (H : f_X12_limit_36 x0 h = some (r, h')) : Ex Γ gX12_limit d 36 [(0, .ref x0)] [] h (some (.int r)) h' := by
  unfold f_X12_limit_36 at H
  obtain ⟨d, rfl⟩ : ∃ e, d = e + 1 := ⟨d - 1, by omega⟩
  refine x_aload_n dX12_limit_36 rfl 0 rfl ?_
  refine x_iconst (v := 3) dX12_limit_37 (by decide) ?_
  obtain ⟨c4, H⟩ := ko_o H
  obtain ⟨v1, h2, hc3, H⟩ := bd_o H
  refine x_callVi (As := [.int 3]) (q := (RX12, TX12, 103)) dX12_limit_38 mi_X12_refuses lk_X12_345 im_X12_refuses se_X12_refuses rfl c4 rfl rfl (Nat.le_of_ble_eq_true rfl) (t_X12_refuses (by omega) hc3) ?_
  obtain ⟨rfl, rfl⟩ := so_1 H
  exact x_iret dX12_limit_41 rfl rfl
def f_X12_limit (x0 : Nat) (x1 : Int32) (x2 : Int32) (h : aH) : Option (Int32 × aH) :=
  ko h x0 11 <|
  bd (f_X12_isPointer x0 x1.toInt64 h) fun v5 h6 =>
  if v5 = 0 then
    f_X12_limit_36 x0 h6
  else
    ko h6 x0 11 <|
    kr (hR h6 x0 47) fun a10 =>
    ka h6 a10 .int fun n13 =>
    chk (inb ((8 * x1) + 6) n13 = true) <|
    if (hI h6 a10 ((8 * x1) + 6 : Int32).toNatClampNeg) = 0 then
      bd (f_X12_isIn x2.toInt64 0 7 h6) fun v16 h17 =>
      if v16 = 0 then
        f_X12_limit_36 x0 h17
      else
        ko h17 x0 11 <|
        bd (f_X12_keeps x0 h17) fun _ h21 =>
        ko h21 x0 11 <|
        kr (hR h21 x0 47) fun a24 =>
        ka h21 a24 .int fun n27 =>
        chk (inb ((8 * x1) + 5) n27 = true) <|
        nm (hI (sI h21 a24 ((8 * x1) + 5 : Int32).toNatClampNeg ((hI h21 a24 ((8 * x1) + 5 : Int32).toNatClampNeg) &&& x2)) a24 ((8 * x1) + 5 : Int32).toNatClampNeg) fun (v29 : Int32) =>
        some (v29, sI h21 a24 ((8 * x1) + 5 : Int32).toNatClampNeg ((hI h21 a24 ((8 * x1) + 5 : Int32).toNatClampNeg) &&& x2))
    else
      f_X12_limit_36 x0 h6
set_option maxRecDepth 100000 in
set_option maxHeartbeats 4000000 in
theorem t_X12_limit {Γ : gS} {d : Nat} (hd : 2 ≤ d) {x0 : Nat} {x1 : Int32} {x2 : Int32} {h : aH} {r : Int32} {h' : aH} (H : f_X12_limit x0 x1 x2 h = some (r, h')) : Mx Γ gX12_limit d [.ref x0, .int x1, .int x2] h (some (.int r)) h' := by
  refine Mx.of (by decide +kernel) (Nat.le_of_ble_eq_true rfl) ?_
  unfold f_X12_limit at H
  show Ex Γ gX12_limit d 0 [(0, .ref x0), (1, .int x1), (2, .int x2)] [] h (some (.int r)) h'
  obtain ⟨d, rfl⟩ : ∃ e, d = e + 1 := ⟨d - 1, by omega⟩
  refine x_aload_n dX12_limit_0 rfl 0 rfl ?_
  refine x_iload_n dX12_limit_1 rfl 1 rfl ?_
  refine x_i2l dX12_limit_2 ?_
  obtain ⟨c31, H⟩ := ko_o H
  obtain ⟨v5, h6, hc7, H⟩ := bd_o H
  refine x_callVi (As := [.long x1.toInt64]) (q := (RX12, TX12, 103)) dX12_limit_3 mi_X12_isPointer lk_X12_418 im_X12_isPointer se_X12_isPointer rfl c31 rfl rfl (Nat.le_of_ble_eq_true rfl) (t_X12_isPointer (by omega) hc7) ?_
  refine x_if_eq (tgt := 36) dX12_limit_6 (by decide) (fun c8 => ?_) (fun c8 => ?_)
  · replace H := ite_p H c8
    refine Ex.sub [0] rfl ?_
    exact t_X12_limit_36 hd H
  · replace H := ite_m H c8
    refine x_aload_n dX12_limit_9 rfl 0 rfl ?_
    obtain ⟨c9, H⟩ := ko_o H
    obtain ⟨a10, c11, H⟩ := kr_o H
    refine x_getR fr_X12_115 dX12_limit_10 c9 rfl c11 ?_
    refine x_bipush (v := 8) dX12_limit_13 (by decide) ?_
    refine x_iload_n dX12_limit_15 rfl 1 rfl ?_
    refine x_imul dX12_limit_16 ?_
    refine x_bipush (v := 6) dX12_limit_17 (by decide) ?_
    refine x_iadd dX12_limit_19 ?_
    obtain ⟨n13, c12, H⟩ := ka_o H
    obtain ⟨c14, H⟩ := chk_o H
    refine x_iald dX12_limit_20 c12 (inb_in.mp c14) ?_
    refine x_if_ne (tgt := 36) dX12_limit_21 (by decide) (fun c15 => ?_) (fun c15 => ?_)
    · replace H := ite_m H c15
      refine Ex.sub [0] rfl ?_
      exact t_X12_limit_36 hd H
    · replace H := ite_p H c15
      refine x_iload_n dX12_limit_24 rfl 2 rfl ?_
      refine x_i2l dX12_limit_25 ?_
      refine x_lconst (v := 0) dX12_limit_26 (by decide) ?_
      refine x_ldc2 kc_X12_546 dX12_limit_27 ?_
      obtain ⟨v16, h17, hc18, H⟩ := bd_o H
      refine x_callSi (As := [.long x2.toInt64, .long 0, .long 7]) dX12_limit_30 mi_X12_isIn lk_X12_268 sm_X12_isIn rfl rfl (Nat.le_of_ble_eq_true rfl) (t_X12_isIn (by omega) hc18) ?_
      refine x_if_ne (tgt := 42) dX12_limit_33 (by decide) (fun c19 => ?_) (fun c19 => ?_)
      · replace H := ite_m H c19
        refine x_aload_n dX12_limit_42 rfl 0 rfl ?_
        obtain ⟨c30, H⟩ := ko_o H
        obtain ⟨v20, h21, hc22, H⟩ := bd_o H
        refine x_callVv (As := []) (q := (RX12, TX12, 103)) dX12_limit_43 mi_X12_keeps lk_X12_528 im_X12_keeps se_X12_keeps rfl c30 rfl rfl (Nat.le_of_ble_eq_true rfl) (t_X12_keeps (by omega) hc22) ?_
        refine x_aload_n dX12_limit_46 rfl 0 rfl ?_
        obtain ⟨c23, H⟩ := ko_o H
        obtain ⟨a24, c25, H⟩ := kr_o H
        refine x_getR fr_X12_115 dX12_limit_47 c23 rfl c25 ?_
        refine x_bipush (v := 8) dX12_limit_50 (by decide) ?_
        refine x_iload_n dX12_limit_52 rfl 1 rfl ?_
        refine x_imul dX12_limit_53 ?_
        refine x_iconst (v := 5) dX12_limit_54 (by decide) ?_
        refine x_iadd dX12_limit_55 ?_
        refine x_dup2 dX12_limit_56 rfl rfl ?_
        obtain ⟨n27, c26, H⟩ := ka_o H
        obtain ⟨c28, H⟩ := chk_o H
        refine x_iald dX12_limit_57 c26 (inb_in.mp c28) ?_
        refine x_iload_n dX12_limit_58 rfl 2 rfl ?_
        refine x_iand dX12_limit_59 ?_
        refine x_iast dX12_limit_60 c26 (inb_in.mp c28) ?_
        refine x_aload_n dX12_limit_61 rfl 0 rfl ?_
        refine x_getR fr_X12_115 dX12_limit_62 c23 rfl c25 ?_
        refine x_bipush (v := 8) dX12_limit_65 (by decide) ?_
        refine x_iload_n dX12_limit_67 rfl 1 rfl ?_
        refine x_imul dX12_limit_68 ?_
        refine x_iconst (v := 5) dX12_limit_69 (by decide) ?_
        refine x_iadd dX12_limit_70 ?_
        obtain ⟨v29, ev29, H⟩ := nm_o H
        refine x_ialde dX12_limit_71 c26 (inb_in.mp c28) ev29 ?_
        obtain ⟨rfl, rfl⟩ := so_1 H
        exact x_iret dX12_limit_72 rfl rfl
      · replace H := ite_p H c19
        refine Ex.sub [0] rfl ?_
        exact t_X12_limit_36 hd H
def f_X12_kindBy_24 (h : aH) : Option (Int32 × aH) :=
  some ((-1), h)
set_option maxRecDepth 100000 in
set_option maxHeartbeats 4000000 in
theorem t_X12_kindBy_24 {Γ : gS} {d : Nat} (hd : 6 ≤ d) {h : aH} {r : Int32} {h' : aH} (H : f_X12_kindBy_24 h = some (r, h')) : Ex Γ gX12_kindBy d 24 [] [] h (some (.int r)) h' := by
  unfold f_X12_kindBy_24 at H
  obtain ⟨d, rfl⟩ : ∃ e, d = e + 1 := ⟨d - 1, by omega⟩
  refine x_iconst (v := (-1)) dX12_kindBy_24 (by decide) ?_
  obtain ⟨rfl, rfl⟩ := so_1 H
  exact x_iret dX12_kindBy_25 rfl rfl
def f_X12_kindBy_67 (s0 : Int32) (h : aH) : Option (Int32 × aH) :=
  some (s0, h)
set_option maxRecDepth 100000 in
set_option maxHeartbeats 4000000 in
theorem t_X12_kindBy_67 {Γ : gS} {d : Nat} (hd : 6 ≤ d) {s0 : Int32} {h : aH} {r : Int32} {h' : aH} (H : f_X12_kindBy_67 s0 h = some (r, h')) : Ex Γ gX12_kindBy d 67 [] [.int s0] h (some (.int r)) h' := by
  unfold f_X12_kindBy_67 at H
  obtain ⟨d, rfl⟩ : ∃ e, d = e + 1 := ⟨d - 1, by omega⟩
  obtain ⟨rfl, rfl⟩ := so_1 H
  exact x_iret dX12_kindBy_67 rfl rfl
def f_X12_kindBy_66 (h : aH) : Option (Int32 × aH) :=
  f_X12_kindBy_67 (-1) h
set_option maxRecDepth 100000 in
set_option maxHeartbeats 4000000 in
theorem t_X12_kindBy_66 {Γ : gS} {d : Nat} (hd : 6 ≤ d) {h : aH} {r : Int32} {h' : aH} (H : f_X12_kindBy_66 h = some (r, h')) : Ex Γ gX12_kindBy d 66 [] [] h (some (.int r)) h' := by
  unfold f_X12_kindBy_66 at H
  obtain ⟨d, rfl⟩ : ∃ e, d = e + 1 := ⟨d - 1, by omega⟩
  refine x_iconst (v := (-1)) dX12_kindBy_66 (by decide) ?_
  exact t_X12_kindBy_67 hd H
def f_X12_kindBy (x0 : Nat) (x1 : Int32) (h : aH) : Option (Int32 × aH) :=
  ko h x0 11 <|
  bd (f_X12_isOpen x0 x1 h) fun v1 h2 =>
  if v1 = 0 then
    f_X12_kindBy_24 h2
  else
    ko h2 x0 11 <|
    kr (hR h2 x0 47) fun a6 =>
    ka h2 a6 .int fun n9 =>
    chk (inb ((8 * x1) + 5) n9 = true) <|
    if ((hI h2 a6 ((8 * x1) + 5 : Int32).toNatClampNeg) &&& 4) = 0 then
      f_X12_kindBy_24 h2
    else
      chk (inb ((8 * x1) + 1) n9 = true) <|
      nm (hI h2 a6 ((8 * x1) + 1 : Int32).toNatClampNeg) fun (v13 : Int32) =>
      bd (f_X12_isIn v13.toInt64 1 7 h2) fun v14 h15 =>
      if v14 = 0 then
        f_X12_kindBy_66 h15
      else
        ko h15 x0 11 <|
        bd (f_X12_isWithin x0 (8 * x1) v13 h15) fun v18 h19 =>
        if v18 = 0 then
          f_X12_kindBy_66 h19
        else
          f_X12_kindBy_67 v13 h19
set_option maxRecDepth 100000 in
set_option maxHeartbeats 4000000 in
theorem t_X12_kindBy {Γ : gS} {d : Nat} (hd : 6 ≤ d) {x0 : Nat} {x1 : Int32} {h : aH} {r : Int32} {h' : aH} (H : f_X12_kindBy x0 x1 h = some (r, h')) : Mx Γ gX12_kindBy d [.ref x0, .int x1] h (some (.int r)) h' := by
  refine Mx.of (by decide +kernel) (Nat.le_of_ble_eq_true rfl) ?_
  unfold f_X12_kindBy at H
  show Ex Γ gX12_kindBy d 0 [(0, .ref x0), (1, .int x1)] [] h (some (.int r)) h'
  obtain ⟨d, rfl⟩ : ∃ e, d = e + 1 := ⟨d - 1, by omega⟩
  refine x_aload_n dX12_kindBy_0 rfl 0 rfl ?_
  refine x_iload_n dX12_kindBy_1 rfl 1 rfl ?_
  obtain ⟨c23, H⟩ := ko_o H
  obtain ⟨v1, h2, hc3, H⟩ := bd_o H
  refine x_callVi (As := [.int x1]) (q := (RX12, TX12, 103)) dX12_kindBy_2 mi_X12_isOpen lk_X12_460 im_X12_isOpen se_X12_isOpen rfl c23 rfl rfl (Nat.le_of_ble_eq_true rfl) (t_X12_isOpen (by omega) hc3) ?_
  refine x_if_eq (tgt := 24) dX12_kindBy_5 (by decide) (fun c4 => ?_) (fun c4 => ?_)
  · replace H := ite_p H c4
    refine Ex.sub [] rfl ?_
    exact t_X12_kindBy_24 hd H
  · replace H := ite_m H c4
    refine x_aload_n dX12_kindBy_8 rfl 0 rfl ?_
    obtain ⟨c5, H⟩ := ko_o H
    obtain ⟨a6, c7, H⟩ := kr_o H
    refine x_getR fr_X12_115 dX12_kindBy_9 c5 rfl c7 ?_
    refine x_bipush (v := 8) dX12_kindBy_12 (by decide) ?_
    refine x_iload_n dX12_kindBy_14 rfl 1 rfl ?_
    refine x_imul dX12_kindBy_15 ?_
    refine x_iconst (v := 5) dX12_kindBy_16 (by decide) ?_
    refine x_iadd dX12_kindBy_17 ?_
    obtain ⟨n9, c8, H⟩ := ka_o H
    obtain ⟨c10, H⟩ := chk_o H
    refine x_iald dX12_kindBy_18 c8 (inb_in.mp c10) ?_
    refine x_iconst (v := 4) dX12_kindBy_19 (by decide) ?_
    refine x_iand dX12_kindBy_20 ?_
    refine x_if_ne (tgt := 26) dX12_kindBy_21 (by decide) (fun c11 => ?_) (fun c11 => ?_)
    · replace H := ite_m H c11
      refine x_aload_n dX12_kindBy_26 rfl 0 rfl ?_
      refine x_getR fr_X12_115 dX12_kindBy_27 c5 rfl c7 ?_
      refine x_bipush (v := 8) dX12_kindBy_30 (by decide) ?_
      refine x_iload_n dX12_kindBy_32 rfl 1 rfl ?_
      refine x_imul dX12_kindBy_33 ?_
      refine x_iconst (v := 1) dX12_kindBy_34 (by decide) ?_
      refine x_iadd dX12_kindBy_35 ?_
      obtain ⟨c12, H⟩ := chk_o H
      refine x_iald dX12_kindBy_36 c8 (inb_in.mp c12) ?_
      obtain ⟨v13, ev13, H⟩ := nm_o H
      refine x_istore_n (lv' := [(2, .int v13), (0, .ref x0), (1, .int x1)]) dX12_kindBy_37 rfl (by decide) ev13 rfl ?_
      refine x_iload_n dX12_kindBy_38 rfl 0 rfl ?_
      refine x_i2l dX12_kindBy_39 ?_
      refine x_lconst (v := 1) dX12_kindBy_40 (by decide) ?_
      refine x_ldc2 kc_X12_546 dX12_kindBy_41 ?_
      obtain ⟨v14, h15, hc16, H⟩ := bd_o H
      refine x_callSi (As := [.long v13.toInt64, .long 1, .long 7]) dX12_kindBy_44 mi_X12_isIn lk_X12_268 sm_X12_isIn rfl rfl (Nat.le_of_ble_eq_true rfl) (t_X12_isIn (by omega) hc16) ?_
      refine x_if_eq (tgt := 66) dX12_kindBy_47 (by decide) (fun c17 => ?_) (fun c17 => ?_)
      · replace H := ite_p H c17
        refine Ex.sub [] rfl ?_
        exact t_X12_kindBy_66 hd H
      · replace H := ite_m H c17
        refine x_aload_n dX12_kindBy_50 rfl 1 rfl ?_
        refine x_bipush (v := 8) dX12_kindBy_51 (by decide) ?_
        refine x_iload_n dX12_kindBy_53 rfl 2 rfl ?_
        refine x_imul dX12_kindBy_54 ?_
        refine x_iload_n dX12_kindBy_55 rfl 0 rfl ?_
        obtain ⟨c22, H⟩ := ko_o H
        obtain ⟨v18, h19, hc20, H⟩ := bd_o H
        refine x_callVi (As := [.int (8 * x1), .int v13]) (q := (RX12, TX12, 103)) dX12_kindBy_56 mi_X12_isWithin lk_X12_504 im_X12_isWithin se_X12_isWithin rfl c22 rfl rfl (Nat.le_of_ble_eq_true rfl) (t_X12_isWithin (by omega) hc20) ?_
        refine x_if_eq (tgt := 66) dX12_kindBy_59 (by decide) (fun c21 => ?_) (fun c21 => ?_)
        · replace H := ite_p H c21
          refine Ex.sub [] rfl ?_
          exact t_X12_kindBy_66 hd H
        · replace H := ite_m H c21
          refine x_iload_n dX12_kindBy_62 rfl 0 rfl ?_
          refine x_goto (tgt := 67) dX12_kindBy_63 (by decide) ?_
          refine Ex.sub [] rfl ?_
          exact t_X12_kindBy_67 hd H
    · replace H := ite_p H c11
      refine Ex.sub [] rfl ?_
      exact t_X12_kindBy_24 hd H
def f_X12_seal_19 (x0 : Nat) (h : aH) : Option (Int32 × aH) :=
  ko h x0 11 <|
  bd (f_X12_refuses x0 4 h) fun v1 h2 =>
  some (v1, h2)
set_option maxRecDepth 100000 in
set_option maxHeartbeats 4000000 in
theorem t_X12_seal_19 {Γ : gS} {d : Nat} (hd : 7 ≤ d) {x0 : Nat} {h : aH} {r : Int32} {h' : aH} (H : f_X12_seal_19 x0 h = some (r, h')) : Ex Γ gX12_seal d 19 [(0, .ref x0)] [] h (some (.int r)) h' := by
  unfold f_X12_seal_19 at H
  obtain ⟨d, rfl⟩ : ∃ e, d = e + 1 := ⟨d - 1, by omega⟩
  refine x_aload_n dX12_seal_19 rfl 0 rfl ?_
  refine x_iconst (v := 4) dX12_seal_20 (by decide) ?_
  obtain ⟨c4, H⟩ := ko_o H
  obtain ⟨v1, h2, hc3, H⟩ := bd_o H
  refine x_callVi (As := [.int 4]) (q := (RX12, TX12, 103)) dX12_seal_21 mi_X12_refuses lk_X12_345 im_X12_refuses se_X12_refuses rfl c4 rfl rfl (Nat.le_of_ble_eq_true rfl) (t_X12_refuses (by omega) hc3) ?_
  obtain ⟨rfl, rfl⟩ := so_1 H
  exact x_iret dX12_seal_24 rfl rfl
def f_X12_seal (x0 : Nat) (x1 : Int32) (x2 : Int32) (h : aH) : Option (Int32 × aH) :=
  ko h x0 11 <|
  bd (f_X12_kindBy x0 x2 h) fun v5 h6 =>
  ko h6 x0 11 <|
  bd (f_X12_isOpen x0 x1 h6) fun v8 h9 =>
  if v8 = 0 then
    f_X12_seal_19 x0 h9
  else
    if v5 = (-1) then
      f_X12_seal_19 x0 h9
    else
      ko h9 x0 11 <|
      bd (f_X12_keeps x0 h9) fun _ h14 =>
      ko h14 x0 11 <|
      kr (hR h14 x0 47) fun a17 =>
      ka h14 a17 .int fun n20 =>
      chk (inb ((8 * x1) + 6) n20 = true) <|
      some (v5, sI h14 a17 ((8 * x1) + 6 : Int32).toNatClampNeg v5)
set_option maxRecDepth 100000 in
set_option maxHeartbeats 4000000 in
theorem t_X12_seal {Γ : gS} {d : Nat} (hd : 7 ≤ d) {x0 : Nat} {x1 : Int32} {x2 : Int32} {h : aH} {r : Int32} {h' : aH} (H : f_X12_seal x0 x1 x2 h = some (r, h')) : Mx Γ gX12_seal d [.ref x0, .int x1, .int x2] h (some (.int r)) h' := by
  refine Mx.of (by decide +kernel) (Nat.le_of_ble_eq_true rfl) ?_
  unfold f_X12_seal at H
  show Ex Γ gX12_seal d 0 [(0, .ref x0), (1, .int x1), (2, .int x2)] [] h (some (.int r)) h'
  obtain ⟨d, rfl⟩ : ∃ e, d = e + 1 := ⟨d - 1, by omega⟩
  refine x_aload_n dX12_seal_0 rfl 0 rfl ?_
  refine x_iload_n dX12_seal_1 rfl 2 rfl ?_
  obtain ⟨c24, H⟩ := ko_o H
  obtain ⟨v5, h6, hc7, H⟩ := bd_o H
  refine x_callVi (As := [.int x2]) (q := (RX12, TX12, 103)) dX12_seal_2 mi_X12_kindBy lk_X12_548 im_X12_kindBy se_X12_kindBy rfl c24 rfl rfl (Nat.le_of_ble_eq_true rfl) (t_X12_kindBy (by omega) hc7) ?_
  refine x_istore_n (lv' := [(3, .int v5), (0, .ref x0), (1, .int x1), (2, .int x2)]) dX12_seal_5 rfl (by decide) rfl rfl ?_
  refine x_aload_n dX12_seal_6 rfl 1 rfl ?_
  refine x_iload_n dX12_seal_7 rfl 2 rfl ?_
  obtain ⟨c23, H⟩ := ko_o H
  obtain ⟨v8, h9, hc10, H⟩ := bd_o H
  refine x_callVi (As := [.int x1]) (q := (RX12, TX12, 103)) dX12_seal_8 mi_X12_isOpen lk_X12_460 im_X12_isOpen se_X12_isOpen rfl c23 rfl rfl (Nat.le_of_ble_eq_true rfl) (t_X12_isOpen (by omega) hc10) ?_
  refine x_if_eq (tgt := 19) dX12_seal_11 (by decide) (fun c11 => ?_) (fun c11 => ?_)
  · replace H := ite_p H c11
    refine Ex.sub [1] rfl ?_
    exact t_X12_seal_19 hd H
  · replace H := ite_m H c11
    refine x_iload_n dX12_seal_14 rfl 0 rfl ?_
    refine x_iconst (v := (-1)) dX12_seal_15 (by decide) ?_
    refine x_icmp_ne (tgt := 25) dX12_seal_16 (by decide) (fun c12 => ?_) (fun c12 => ?_)
    · replace H := ite_m H c12
      refine x_aload_n dX12_seal_25 rfl 1 rfl ?_
      obtain ⟨c22, H⟩ := ko_o H
      obtain ⟨v13, h14, hc15, H⟩ := bd_o H
      refine x_callVv (As := []) (q := (RX12, TX12, 103)) dX12_seal_26 mi_X12_keeps lk_X12_528 im_X12_keeps se_X12_keeps rfl c22 rfl rfl (Nat.le_of_ble_eq_true rfl) (t_X12_keeps (by omega) hc15) ?_
      refine x_aload_n dX12_seal_29 rfl 1 rfl ?_
      obtain ⟨c16, H⟩ := ko_o H
      obtain ⟨a17, c18, H⟩ := kr_o H
      refine x_getR fr_X12_115 dX12_seal_30 c16 rfl c18 ?_
      refine x_bipush (v := 8) dX12_seal_33 (by decide) ?_
      refine x_iload_n dX12_seal_35 rfl 2 rfl ?_
      refine x_imul dX12_seal_36 ?_
      refine x_bipush (v := 6) dX12_seal_37 (by decide) ?_
      refine x_iadd dX12_seal_39 ?_
      refine x_iload_n dX12_seal_40 rfl 0 rfl ?_
      obtain ⟨n20, c19, H⟩ := ka_o H
      obtain ⟨c21, H⟩ := chk_o H
      refine x_iast dX12_seal_41 c19 (inb_in.mp c21) ?_
      refine x_iload_n dX12_seal_42 rfl 0 rfl ?_
      obtain ⟨rfl, rfl⟩ := so_1 H
      exact x_iret dX12_seal_43 rfl rfl
    · replace H := ite_p H c12
      refine Ex.sub [1] rfl ?_
      exact t_X12_seal_19 hd H
def f_X12_unseal_49 (x0 : Nat) (h : aH) : Option (Int32 × aH) :=
  ko h x0 11 <|
  bd (f_X12_isRefused x0 4 h) fun v1 h2 =>
  chk (narrow .boolean (.int v1) = .int v1) <|
  some (v1, h2)
set_option maxRecDepth 100000 in
set_option maxHeartbeats 4000000 in
theorem t_X12_unseal_49 {Γ : gS} {d : Nat} (hd : 7 ≤ d) {x0 : Nat} {h : aH} {r : Int32} {h' : aH} (H : f_X12_unseal_49 x0 h = some (r, h')) : Ex Γ gX12_unseal d 49 [(0, .ref x0)] [] h (some (.int r)) h' := by
  unfold f_X12_unseal_49 at H
  obtain ⟨d, rfl⟩ : ∃ e, d = e + 1 := ⟨d - 1, by omega⟩
  refine x_aload_n dX12_unseal_49 rfl 0 rfl ?_
  refine x_iconst (v := 4) dX12_unseal_50 (by decide) ?_
  obtain ⟨c5, H⟩ := ko_o H
  obtain ⟨v1, h2, hc3, H⟩ := bd_o H
  refine x_callVi (As := [.int 4]) (q := (RX12, TX12, 103)) dX12_unseal_51 mi_X12_isRefused lk_X12_540 im_X12_isRefused se_X12_isRefused rfl c5 rfl rfl (Nat.le_of_ble_eq_true rfl) (t_X12_isRefused (by omega) hc3) ?_
  obtain ⟨c4, H⟩ := chk_o H
  obtain ⟨rfl, rfl⟩ := so_1 H
  exact x_iret dX12_unseal_54 rfl c4
def f_X12_unseal (x0 : Nat) (x1 : Int32) (x2 : Int32) (h : aH) : Option (Int32 × aH) :=
  ko h x0 11 <|
  bd (f_X12_kindBy x0 x2 h) fun v6 h7 =>
  ko h7 x0 11 <|
  bd (f_X12_isPointer x0 x1.toInt64 h7) fun v9 h10 =>
  if v9 = 0 then
    f_X12_unseal_49 x0 h10
  else
    ko h10 x0 11 <|
    kr (hR h10 x0 47) fun a14 =>
    ka h10 a14 .int fun n17 =>
    chk (inb (8 * x1) n17 = true) <|
    if (hI h10 a14 (8 * x1 : Int32).toNatClampNeg) = 1 then
      if v6 = (-1) then
        f_X12_unseal_49 x0 h10
      else
        chk (inb ((8 * x1) + 6) n17 = true) <|
        if (hI h10 a14 ((8 * x1) + 6 : Int32).toNatClampNeg) = v6 then
          bd (f_X12_keeps x0 h10) fun _ h24 =>
          ko h24 x0 11 <|
          kr (hR h24 x0 47) fun a27 =>
          ka h24 a27 .int fun n30 =>
          chk (inb ((8 * x1) + 6) n30 = true) <|
          some (1, sI h24 a27 ((8 * x1) + 6 : Int32).toNatClampNeg 0)
        else
          f_X12_unseal_49 x0 h10
    else
      f_X12_unseal_49 x0 h10
set_option maxRecDepth 100000 in
set_option maxHeartbeats 4000000 in
theorem t_X12_unseal {Γ : gS} {d : Nat} (hd : 7 ≤ d) {x0 : Nat} {x1 : Int32} {x2 : Int32} {h : aH} {r : Int32} {h' : aH} (H : f_X12_unseal x0 x1 x2 h = some (r, h')) : Mx Γ gX12_unseal d [.ref x0, .int x1, .int x2] h (some (.int r)) h' := by
  refine Mx.of (by decide +kernel) (Nat.le_of_ble_eq_true rfl) ?_
  unfold f_X12_unseal at H
  show Ex Γ gX12_unseal d 0 [(0, .ref x0), (1, .int x1), (2, .int x2)] [] h (some (.int r)) h'
  obtain ⟨d, rfl⟩ : ∃ e, d = e + 1 := ⟨d - 1, by omega⟩
  refine x_aload_n dX12_unseal_0 rfl 0 rfl ?_
  refine x_iload_n dX12_unseal_1 rfl 2 rfl ?_
  obtain ⟨c33, H⟩ := ko_o H
  obtain ⟨v6, h7, hc8, H⟩ := bd_o H
  refine x_callVi (As := [.int x2]) (q := (RX12, TX12, 103)) dX12_unseal_2 mi_X12_kindBy lk_X12_548 im_X12_kindBy se_X12_kindBy rfl c33 rfl rfl (Nat.le_of_ble_eq_true rfl) (t_X12_kindBy (by omega) hc8) ?_
  refine x_istore_n (lv' := [(3, .int v6), (0, .ref x0), (1, .int x1), (2, .int x2)]) dX12_unseal_5 rfl (by decide) rfl rfl ?_
  refine x_aload_n dX12_unseal_6 rfl 1 rfl ?_
  refine x_iload_n dX12_unseal_7 rfl 2 rfl ?_
  refine x_i2l dX12_unseal_8 ?_
  obtain ⟨c32, H⟩ := ko_o H
  obtain ⟨v9, h10, hc11, H⟩ := bd_o H
  refine x_callVi (As := [.long x1.toInt64]) (q := (RX12, TX12, 103)) dX12_unseal_9 mi_X12_isPointer lk_X12_418 im_X12_isPointer se_X12_isPointer rfl c32 rfl rfl (Nat.le_of_ble_eq_true rfl) (t_X12_isPointer (by omega) hc11) ?_
  refine x_if_eq (tgt := 49) dX12_unseal_12 (by decide) (fun c12 => ?_) (fun c12 => ?_)
  · replace H := ite_p H c12
    refine Ex.sub [1] rfl ?_
    exact t_X12_unseal_49 hd H
  · replace H := ite_m H c12
    refine x_aload_n dX12_unseal_15 rfl 1 rfl ?_
    obtain ⟨c13, H⟩ := ko_o H
    obtain ⟨a14, c15, H⟩ := kr_o H
    refine x_getR fr_X12_115 dX12_unseal_16 c13 rfl c15 ?_
    refine x_bipush (v := 8) dX12_unseal_19 (by decide) ?_
    refine x_iload_n dX12_unseal_21 rfl 2 rfl ?_
    refine x_imul dX12_unseal_22 ?_
    obtain ⟨n17, c16, H⟩ := ka_o H
    obtain ⟨c18, H⟩ := chk_o H
    refine x_iald dX12_unseal_23 c16 (inb_in.mp c18) ?_
    refine x_iconst (v := 1) dX12_unseal_24 (by decide) ?_
    refine x_icmp_ne (tgt := 49) dX12_unseal_25 (by decide) (fun c19 => ?_) (fun c19 => ?_)
    · replace H := ite_m H c19
      refine Ex.sub [1] rfl ?_
      exact t_X12_unseal_49 hd H
    · replace H := ite_p H c19
      refine x_iload_n dX12_unseal_28 rfl 0 rfl ?_
      refine x_iconst (v := (-1)) dX12_unseal_29 (by decide) ?_
      refine x_icmp_eq (tgt := 49) dX12_unseal_30 (by decide) (fun c20 => ?_) (fun c20 => ?_)
      · replace H := ite_p H c20
        refine Ex.sub [1] rfl ?_
        exact t_X12_unseal_49 hd H
      · replace H := ite_m H c20
        refine x_aload_n dX12_unseal_33 rfl 1 rfl ?_
        refine x_getR fr_X12_115 dX12_unseal_34 c13 rfl c15 ?_
        refine x_bipush (v := 8) dX12_unseal_37 (by decide) ?_
        refine x_iload_n dX12_unseal_39 rfl 2 rfl ?_
        refine x_imul dX12_unseal_40 ?_
        refine x_bipush (v := 6) dX12_unseal_41 (by decide) ?_
        refine x_iadd dX12_unseal_43 ?_
        obtain ⟨c21, H⟩ := chk_o H
        refine x_iald dX12_unseal_44 c16 (inb_in.mp c21) ?_
        refine x_iload_n dX12_unseal_45 rfl 0 rfl ?_
        refine x_icmp_eq (tgt := 55) dX12_unseal_46 (by decide) (fun c22 => ?_) (fun c22 => ?_)
        · replace H := ite_p H c22
          refine x_aload_n dX12_unseal_55 rfl 1 rfl ?_
          obtain ⟨v23, h24, hc25, H⟩ := bd_o H
          refine x_callVv (As := []) (q := (RX12, TX12, 103)) dX12_unseal_56 mi_X12_keeps lk_X12_528 im_X12_keeps se_X12_keeps rfl c13 rfl rfl (Nat.le_of_ble_eq_true rfl) (t_X12_keeps (by omega) hc25) ?_
          refine x_aload_n dX12_unseal_59 rfl 1 rfl ?_
          obtain ⟨c26, H⟩ := ko_o H
          obtain ⟨a27, c28, H⟩ := kr_o H
          refine x_getR fr_X12_115 dX12_unseal_60 c26 rfl c28 ?_
          refine x_bipush (v := 8) dX12_unseal_63 (by decide) ?_
          refine x_iload_n dX12_unseal_65 rfl 2 rfl ?_
          refine x_imul dX12_unseal_66 ?_
          refine x_bipush (v := 6) dX12_unseal_67 (by decide) ?_
          refine x_iadd dX12_unseal_69 ?_
          refine x_iconst (v := 0) dX12_unseal_70 (by decide) ?_
          obtain ⟨n30, c29, H⟩ := ka_o H
          obtain ⟨c31, H⟩ := chk_o H
          refine x_iast dX12_unseal_71 c29 (inb_in.mp c31) ?_
          refine x_iconst (v := 1) dX12_unseal_72 (by decide) ?_
          obtain ⟨rfl, rfl⟩ := so_1 H
          exact x_iret dX12_unseal_73 rfl (by decide)
        · replace H := ite_m H c22
          refine Ex.sub [1] rfl ?_
          exact t_X12_unseal_49 hd H
def f_X12_canFollow_24 (h : aH) : Option (Int32 × aH) :=
  some (0, h)
set_option maxRecDepth 100000 in
set_option maxHeartbeats 4000000 in
theorem t_X12_canFollow_24 {Γ : gS} {d : Nat} (hd : 7 ≤ d) {h : aH} {r : Int32} {h' : aH} (H : f_X12_canFollow_24 h = some (r, h')) : Ex Γ gX12_canFollow d 24 [] [] h (some (.int r)) h' := by
  unfold f_X12_canFollow_24 at H
  obtain ⟨d, rfl⟩ : ∃ e, d = e + 1 := ⟨d - 1, by omega⟩
  refine x_iconst (v := 0) dX12_canFollow_24 (by decide) ?_
  obtain ⟨rfl, rfl⟩ := so_1 H
  exact x_iret dX12_canFollow_25 rfl (by decide)
def f_X12_canFollow_60 (h : aH) : Option (Int32 × aH) :=
  some (0, h)
set_option maxRecDepth 100000 in
set_option maxHeartbeats 4000000 in
theorem t_X12_canFollow_60 {Γ : gS} {d : Nat} (hd : 7 ≤ d) {h : aH} {r : Int32} {h' : aH} (H : f_X12_canFollow_60 h = some (r, h')) : Ex Γ gX12_canFollow d 60 [] [] h (some (.int r)) h' := by
  unfold f_X12_canFollow_60 at H
  obtain ⟨d, rfl⟩ : ∃ e, d = e + 1 := ⟨d - 1, by omega⟩
  refine x_iconst (v := 0) dX12_canFollow_60 (by decide) ?_
  obtain ⟨rfl, rfl⟩ := so_1 H
  exact x_iret dX12_canFollow_61 rfl (by decide)
def f_X12_canFollow_90 (s0 : Int32) (h : aH) : Option (Int32 × aH) :=
  chk (narrow .boolean (.int s0) = .int s0) <|
  some (s0, h)
set_option maxRecDepth 100000 in
set_option maxHeartbeats 4000000 in
theorem t_X12_canFollow_90 {Γ : gS} {d : Nat} (hd : 7 ≤ d) {s0 : Int32} {h : aH} {r : Int32} {h' : aH} (H : f_X12_canFollow_90 s0 h = some (r, h')) : Ex Γ gX12_canFollow d 90 [] [.int s0] h (some (.int r)) h' := by
  unfold f_X12_canFollow_90 at H
  obtain ⟨d, rfl⟩ : ∃ e, d = e + 1 := ⟨d - 1, by omega⟩
  obtain ⟨c1, H⟩ := chk_o H
  obtain ⟨rfl, rfl⟩ := so_1 H
  exact x_iret dX12_canFollow_90 rfl c1
def f_X12_canFollow_85 (h : aH) : Option (Int32 × aH) :=
  f_X12_canFollow_90 1 h
set_option maxRecDepth 100000 in
set_option maxHeartbeats 4000000 in
theorem t_X12_canFollow_85 {Γ : gS} {d : Nat} (hd : 7 ≤ d) {h : aH} {r : Int32} {h' : aH} (H : f_X12_canFollow_85 h = some (r, h')) : Ex Γ gX12_canFollow d 85 [] [] h (some (.int r)) h' := by
  unfold f_X12_canFollow_85 at H
  obtain ⟨d, rfl⟩ : ∃ e, d = e + 1 := ⟨d - 1, by omega⟩
  refine x_iconst (v := 1) dX12_canFollow_85 (by decide) ?_
  refine x_goto (tgt := 90) dX12_canFollow_86 (by decide) ?_
  exact t_X12_canFollow_90 hd H
def f_X12_canFollow (x0 : Nat) (x1 : Int32) (x2 : Int32) (h : aH) : Option (Int32 × aH) :=
  ko h x0 11 <|
  bd (f_X12_isOpen x0 x1 h) fun v2 h3 =>
  if v2 = 0 then
    f_X12_canFollow_24 h3
  else
    ko h3 x0 11 <|
    kr (hR h3 x0 47) fun a7 =>
    ka h3 a7 .int fun n10 =>
    chk (inb ((8 * x1) + 5) n10 = true) <|
    if ((hI h3 a7 ((8 * x1) + 5 : Int32).toNatClampNeg) &&& x2) = 0 then
      f_X12_canFollow_24 h3
    else
      chk (inb ((8 * x1) + 1) n10 = true) <|
      nm (hI h3 a7 ((8 * x1) + 1 : Int32).toNatClampNeg) fun (v14 : Int32) =>
      kr (hR h3 x0 37) fun a15 =>
      ka h3 a15 .int fun n18 =>
      chk (inb 3 n18 = true) <|
      if (hI h3 a15 (3 : Int32).toNatClampNeg) ≤ v14 then
        f_X12_canFollow_60 h3
      else
        bd (f_X12_isWithin x0 (8 * x1) v14 h3) fun v21 h22 =>
        if v21 = 0 then
          f_X12_canFollow_60 h22
        else
          ko h22 x0 11 <|
          bd (f_X12_isCoded x0 2 (sI h22 x0 48 x1)) fun v26 h27 =>
          if v26 = 0 then
            f_X12_canFollow_85 h27
          else
            ko h27 x0 11 <|
            bd (f_X12_codesTell x0 2 h27) fun v30 h31 =>
            if (lg_cmp v30 1) = 0 then
              f_X12_canFollow_90 0 h31
            else
              f_X12_canFollow_85 h31
set_option maxRecDepth 100000 in
set_option maxHeartbeats 4000000 in
theorem t_X12_canFollow {Γ : gS} {d : Nat} (hd : 7 ≤ d) {x0 : Nat} {x1 : Int32} {x2 : Int32} {h : aH} {r : Int32} {h' : aH} (H : f_X12_canFollow x0 x1 x2 h = some (r, h')) : Mx Γ gX12_canFollow d [.ref x0, .int x1, .int x2] h (some (.int r)) h' := by
  refine Mx.of (by decide +kernel) (Nat.le_of_ble_eq_true rfl) ?_
  unfold f_X12_canFollow at H
  show Ex Γ gX12_canFollow d 0 [(0, .ref x0), (1, .int x1), (2, .int x2)] [] h (some (.int r)) h'
  obtain ⟨d, rfl⟩ : ∃ e, d = e + 1 := ⟨d - 1, by omega⟩
  refine x_aload_n dX12_canFollow_0 rfl 0 rfl ?_
  refine x_iload_n dX12_canFollow_1 rfl 1 rfl ?_
  obtain ⟨c35, H⟩ := ko_o H
  obtain ⟨v2, h3, hc4, H⟩ := bd_o H
  refine x_callVi (As := [.int x1]) (q := (RX12, TX12, 103)) dX12_canFollow_2 mi_X12_isOpen lk_X12_460 im_X12_isOpen se_X12_isOpen rfl c35 rfl rfl (Nat.le_of_ble_eq_true rfl) (t_X12_isOpen (by omega) hc4) ?_
  refine x_if_eq (tgt := 24) dX12_canFollow_5 (by decide) (fun c5 => ?_) (fun c5 => ?_)
  · replace H := ite_p H c5
    refine Ex.sub [] rfl ?_
    exact t_X12_canFollow_24 hd H
  · replace H := ite_m H c5
    refine x_aload_n dX12_canFollow_8 rfl 0 rfl ?_
    obtain ⟨c6, H⟩ := ko_o H
    obtain ⟨a7, c8, H⟩ := kr_o H
    refine x_getR fr_X12_115 dX12_canFollow_9 c6 rfl c8 ?_
    refine x_bipush (v := 8) dX12_canFollow_12 (by decide) ?_
    refine x_iload_n dX12_canFollow_14 rfl 1 rfl ?_
    refine x_imul dX12_canFollow_15 ?_
    refine x_iconst (v := 5) dX12_canFollow_16 (by decide) ?_
    refine x_iadd dX12_canFollow_17 ?_
    obtain ⟨n10, c9, H⟩ := ka_o H
    obtain ⟨c11, H⟩ := chk_o H
    refine x_iald dX12_canFollow_18 c9 (inb_in.mp c11) ?_
    refine x_iload_n dX12_canFollow_19 rfl 2 rfl ?_
    refine x_iand dX12_canFollow_20 ?_
    refine x_if_ne (tgt := 26) dX12_canFollow_21 (by decide) (fun c12 => ?_) (fun c12 => ?_)
    · replace H := ite_m H c12
      refine x_aload_n dX12_canFollow_26 rfl 0 rfl ?_
      refine x_getR fr_X12_115 dX12_canFollow_27 c6 rfl c8 ?_
      refine x_bipush (v := 8) dX12_canFollow_30 (by decide) ?_
      refine x_iload_n dX12_canFollow_32 rfl 1 rfl ?_
      refine x_imul dX12_canFollow_33 ?_
      refine x_iconst (v := 1) dX12_canFollow_34 (by decide) ?_
      refine x_iadd dX12_canFollow_35 ?_
      obtain ⟨c13, H⟩ := chk_o H
      refine x_iald dX12_canFollow_36 c9 (inb_in.mp c13) ?_
      obtain ⟨v14, ev14, H⟩ := nm_o H
      refine x_istore_n (lv' := [(3, .int v14), (0, .ref x0), (1, .int x1), (2, .int x2)]) dX12_canFollow_37 rfl (by decide) ev14 rfl ?_
      refine x_iload_n dX12_canFollow_38 rfl 0 rfl ?_
      refine x_aload_n dX12_canFollow_39 rfl 1 rfl ?_
      obtain ⟨a15, c16, H⟩ := kr_o H
      refine x_getR fr_X12_96 dX12_canFollow_40 c6 rfl c16 ?_
      refine x_iconst (v := 3) dX12_canFollow_43 (by decide) ?_
      obtain ⟨n18, c17, H⟩ := ka_o H
      obtain ⟨c19, H⟩ := chk_o H
      refine x_iald dX12_canFollow_44 c17 (inb_in.mp c19) ?_
      refine x_icmp_ge (tgt := 60) dX12_canFollow_45 (by decide) (fun c20 => ?_) (fun c20 => ?_)
      · replace H := ite_p H c20
        refine Ex.sub [] rfl ?_
        exact t_X12_canFollow_60 hd H
      · replace H := ite_m H c20
        refine x_aload_n dX12_canFollow_48 rfl 1 rfl ?_
        refine x_bipush (v := 8) dX12_canFollow_49 (by decide) ?_
        refine x_iload_n dX12_canFollow_51 rfl 2 rfl ?_
        refine x_imul dX12_canFollow_52 ?_
        refine x_iload_n dX12_canFollow_53 rfl 0 rfl ?_
        obtain ⟨v21, h22, hc23, H⟩ := bd_o H
        refine x_callVi (As := [.int (8 * x1), .int v14]) (q := (RX12, TX12, 103)) dX12_canFollow_54 mi_X12_isWithin lk_X12_504 im_X12_isWithin se_X12_isWithin rfl c6 rfl rfl (Nat.le_of_ble_eq_true rfl) (t_X12_isWithin (by omega) hc23) ?_
        refine x_if_ne (tgt := 62) dX12_canFollow_57 (by decide) (fun c24 => ?_) (fun c24 => ?_)
        · replace H := ite_m H c24
          refine x_aload_n dX12_canFollow_62 rfl 1 rfl ?_
          refine x_iload_n dX12_canFollow_63 rfl 2 rfl ?_
          obtain ⟨c25, H⟩ := ko_o H
          refine x_putI fl_X12_551 dX12_canFollow_64 c25 (fun e => by cases e) rfl ?_
          refine x_aload_n dX12_canFollow_67 rfl 1 rfl ?_
          refine x_iconst (v := 2) dX12_canFollow_68 (by decide) ?_
          obtain ⟨v26, h27, hc28, H⟩ := bd_o H
          refine x_callVi (As := [.int 2]) (q := (RX12, TX12, 103)) dX12_canFollow_69 mi_X12_isCoded lk_X12_434 im_X12_isCoded se_X12_isCoded rfl c25 rfl rfl (Nat.le_of_ble_eq_true rfl) (t_X12_isCoded (by omega) hc28) ?_
          refine x_if_eq (tgt := 85) dX12_canFollow_72 (by decide) (fun c29 => ?_) (fun c29 => ?_)
          · replace H := ite_p H c29
            refine Ex.sub [] rfl ?_
            exact t_X12_canFollow_85 hd H
          · replace H := ite_m H c29
            refine x_aload_n dX12_canFollow_75 rfl 1 rfl ?_
            refine x_iconst (v := 2) dX12_canFollow_76 (by decide) ?_
            obtain ⟨c34, H⟩ := ko_o H
            obtain ⟨v30, h31, hc32, H⟩ := bd_o H
            refine x_callVl (As := [.int 2]) (q := (RX12, TX12, 103)) dX12_canFollow_77 mi_X12_codesTell lk_X12_437 im_X12_codesTell se_X12_codesTell rfl c34 rfl rfl (Nat.le_of_ble_eq_true rfl) (t_X12_codesTell (by omega) hc32) ?_
            refine x_lconst (v := 1) dX12_canFollow_80 (by decide) ?_
            refine x_lcmp dX12_canFollow_81 ?_
            refine x_if_eq (tgt := 89) dX12_canFollow_82 (by decide) (fun c33 => ?_) (fun c33 => ?_)
            · replace H := ite_p H c33
              refine x_iconst (v := 0) dX12_canFollow_89 (by decide) ?_
              refine Ex.sub [] rfl ?_
              exact t_X12_canFollow_90 hd H
            · replace H := ite_m H c33
              refine Ex.sub [] rfl ?_
              exact t_X12_canFollow_85 hd H
        · replace H := ite_p H c24
          refine Ex.sub [] rfl ?_
          exact t_X12_canFollow_60 hd H
    · replace H := ite_p H c12
      refine Ex.sub [] rfl ?_
      exact t_X12_canFollow_24 hd H
def f_X12_load_37 (s0 : Int32) (h : aH) : Option (Int32 × aH) :=
  some (s0, h)
set_option maxRecDepth 100000 in
set_option maxHeartbeats 4000000 in
theorem t_X12_load_37 {Γ : gS} {d : Nat} (hd : 8 ≤ d) {s0 : Int32} {h : aH} {r : Int32} {h' : aH} (H : f_X12_load_37 s0 h = some (r, h')) : Ex Γ gX12_load d 37 [] [.int s0] h (some (.int r)) h' := by
  unfold f_X12_load_37 at H
  obtain ⟨d, rfl⟩ : ∃ e, d = e + 1 := ⟨d - 1, by omega⟩
  obtain ⟨rfl, rfl⟩ := so_1 H
  exact x_iret dX12_load_37 rfl rfl
def f_X12_load (x0 : Nat) (x1 : Int32) (h : aH) : Option (Int32 × aH) :=
  ko h x0 11 <|
  bd (f_X12_canFollow x0 x1 1 h) fun v1 h2 =>
  if v1 = 0 then
    ko h2 x0 11 <|
    bd (f_X12_refuses x0 5 h2) fun v5 h6 =>
    f_X12_load_37 v5 h6
  else
    ko h2 x0 11 <|
    kr (hR h2 x0 47) fun a10 =>
    ka h2 a10 .int fun n13 =>
    chk (inb ((8 * x1) + 1) n13 = true) <|
    chk (inb (353 + (hI h2 a10 ((8 * x1) + 1 : Int32).toNatClampNeg)) n13 = true) <|
    f_X12_load_37 (hI h2 a10 (353 + (hI h2 a10 ((8 * x1) + 1 : Int32).toNatClampNeg) : Int32).toNatClampNeg) h2
set_option maxRecDepth 100000 in
set_option maxHeartbeats 4000000 in
theorem t_X12_load {Γ : gS} {d : Nat} (hd : 8 ≤ d) {x0 : Nat} {x1 : Int32} {h : aH} {r : Int32} {h' : aH} (H : f_X12_load x0 x1 h = some (r, h')) : Mx Γ gX12_load d [.ref x0, .int x1] h (some (.int r)) h' := by
  refine Mx.of (by decide +kernel) (Nat.le_of_ble_eq_true rfl) ?_
  unfold f_X12_load at H
  show Ex Γ gX12_load d 0 [(0, .ref x0), (1, .int x1)] [] h (some (.int r)) h'
  obtain ⟨d, rfl⟩ : ∃ e, d = e + 1 := ⟨d - 1, by omega⟩
  refine x_aload_n dX12_load_0 rfl 0 rfl ?_
  refine x_iload_n dX12_load_1 rfl 1 rfl ?_
  refine x_iconst (v := 1) dX12_load_2 (by decide) ?_
  obtain ⟨c16, H⟩ := ko_o H
  obtain ⟨v1, h2, hc3, H⟩ := bd_o H
  refine x_callVi (As := [.int x1, .int 1]) (q := (RX12, TX12, 103)) dX12_load_3 mi_X12_canFollow lk_X12_554 im_X12_canFollow se_X12_canFollow rfl c16 rfl rfl (Nat.le_of_ble_eq_true rfl) (t_X12_canFollow (by omega) hc3) ?_
  refine x_if_eq (tgt := 32) dX12_load_6 (by decide) (fun c4 => ?_) (fun c4 => ?_)
  · replace H := ite_p H c4
    refine x_aload_n dX12_load_32 rfl 0 rfl ?_
    refine x_iconst (v := 5) dX12_load_33 (by decide) ?_
    obtain ⟨c8, H⟩ := ko_o H
    obtain ⟨v5, h6, hc7, H⟩ := bd_o H
    refine x_callVi (As := [.int 5]) (q := (RX12, TX12, 103)) dX12_load_34 mi_X12_refuses lk_X12_345 im_X12_refuses se_X12_refuses rfl c8 rfl rfl (Nat.le_of_ble_eq_true rfl) (t_X12_refuses (by omega) hc7) ?_
    refine Ex.sub [] rfl ?_
    exact t_X12_load_37 hd H
  · replace H := ite_m H c4
    refine x_aload_n dX12_load_9 rfl 0 rfl ?_
    obtain ⟨c9, H⟩ := ko_o H
    obtain ⟨a10, c11, H⟩ := kr_o H
    refine x_getR fr_X12_115 dX12_load_10 c9 rfl c11 ?_
    refine x_sipush (v := 353) dX12_load_13 (by decide) ?_
    refine x_aload_n dX12_load_16 rfl 0 rfl ?_
    refine x_getR fr_X12_115 dX12_load_17 c9 rfl c11 ?_
    refine x_bipush (v := 8) dX12_load_20 (by decide) ?_
    refine x_iload_n dX12_load_22 rfl 1 rfl ?_
    refine x_imul dX12_load_23 ?_
    refine x_iconst (v := 1) dX12_load_24 (by decide) ?_
    refine x_iadd dX12_load_25 ?_
    obtain ⟨n13, c12, H⟩ := ka_o H
    obtain ⟨c14, H⟩ := chk_o H
    refine x_iald dX12_load_26 c12 (inb_in.mp c14) ?_
    refine x_iadd dX12_load_27 ?_
    obtain ⟨c15, H⟩ := chk_o H
    refine x_iald dX12_load_28 c12 (inb_in.mp c15) ?_
    refine x_goto (tgt := 37) dX12_load_29 (by decide) ?_
    refine Ex.sub [] rfl ?_
    exact t_X12_load_37 hd H
def f_X12_store_21 (x0 : Nat) (h : aH) : Option (Int32 × aH) :=
  ko h x0 11 <|
  bd (f_X12_isRefused x0 5 h) fun v1 h2 =>
  chk (narrow .boolean (.int v1) = .int v1) <|
  some (v1, h2)
set_option maxRecDepth 100000 in
set_option maxHeartbeats 4000000 in
theorem t_X12_store_21 {Γ : gS} {d : Nat} (hd : 8 ≤ d) {x0 : Nat} {h : aH} {r : Int32} {h' : aH} (H : f_X12_store_21 x0 h = some (r, h')) : Ex Γ gX12_store d 21 [(0, .ref x0)] [] h (some (.int r)) h' := by
  unfold f_X12_store_21 at H
  obtain ⟨d, rfl⟩ : ∃ e, d = e + 1 := ⟨d - 1, by omega⟩
  refine x_aload_n dX12_store_21 rfl 0 rfl ?_
  refine x_iconst (v := 5) dX12_store_22 (by decide) ?_
  obtain ⟨c5, H⟩ := ko_o H
  obtain ⟨v1, h2, hc3, H⟩ := bd_o H
  refine x_callVi (As := [.int 5]) (q := (RX12, TX12, 103)) dX12_store_23 mi_X12_isRefused lk_X12_540 im_X12_isRefused se_X12_isRefused rfl c5 rfl rfl (Nat.le_of_ble_eq_true rfl) (t_X12_isRefused (by omega) hc3) ?_
  obtain ⟨c4, H⟩ := chk_o H
  obtain ⟨rfl, rfl⟩ := so_1 H
  exact x_iret dX12_store_26 rfl c4
def f_X12_store (x0 : Nat) (x1 : Int32) (x2 : Int32) (h : aH) : Option (Int32 × aH) :=
  bd (f_X12_isIn x2.toInt64 0 255 h) fun v6 h7 =>
  if v6 = 0 then
    f_X12_store_21 x0 h7
  else
    ko h7 x0 11 <|
    bd (f_X12_canFollow x0 x1 2 h7) fun v10 h11 =>
    if v10 = 0 then
      f_X12_store_21 x0 h11
    else
      ko h11 x0 11 <|
      bd (f_X12_keeps x0 h11) fun _ h15 =>
      ko h15 x0 11 <|
      kr (hR h15 x0 47) fun a18 =>
      ka h15 a18 .int fun n21 =>
      chk (inb ((8 * x1) + 1) n21 = true) <|
      chk (inb (353 + (hI h15 a18 ((8 * x1) + 1 : Int32).toNatClampNeg)) n21 = true) <|
      some (1, sI h15 a18 (353 + (hI h15 a18 ((8 * x1) + 1 : Int32).toNatClampNeg) : Int32).toNatClampNeg x2)
set_option maxRecDepth 100000 in
set_option maxHeartbeats 4000000 in
theorem t_X12_store {Γ : gS} {d : Nat} (hd : 8 ≤ d) {x0 : Nat} {x1 : Int32} {x2 : Int32} {h : aH} {r : Int32} {h' : aH} (H : f_X12_store x0 x1 x2 h = some (r, h')) : Mx Γ gX12_store d [.ref x0, .int x1, .int x2] h (some (.int r)) h' := by
  refine Mx.of (by decide +kernel) (Nat.le_of_ble_eq_true rfl) ?_
  unfold f_X12_store at H
  show Ex Γ gX12_store d 0 [(0, .ref x0), (1, .int x1), (2, .int x2)] [] h (some (.int r)) h'
  obtain ⟨d, rfl⟩ : ∃ e, d = e + 1 := ⟨d - 1, by omega⟩
  refine x_iload_n dX12_store_0 rfl 2 rfl ?_
  refine x_i2l dX12_store_1 ?_
  refine x_lconst (v := 0) dX12_store_2 (by decide) ?_
  refine x_ldc2 kc_X12_557 dX12_store_3 ?_
  obtain ⟨v6, h7, hc8, H⟩ := bd_o H
  refine x_callSi (As := [.long x2.toInt64, .long 0, .long 255]) dX12_store_6 mi_X12_isIn lk_X12_268 sm_X12_isIn rfl rfl (Nat.le_of_ble_eq_true rfl) (t_X12_isIn (by omega) hc8) ?_
  refine x_if_eq (tgt := 21) dX12_store_9 (by decide) (fun c9 => ?_) (fun c9 => ?_)
  · replace H := ite_p H c9
    refine Ex.sub [0] rfl ?_
    exact t_X12_store_21 hd H
  · replace H := ite_m H c9
    refine x_aload_n dX12_store_12 rfl 0 rfl ?_
    refine x_iload_n dX12_store_13 rfl 1 rfl ?_
    refine x_iconst (v := 2) dX12_store_14 (by decide) ?_
    obtain ⟨c25, H⟩ := ko_o H
    obtain ⟨v10, h11, hc12, H⟩ := bd_o H
    refine x_callVi (As := [.int x1, .int 2]) (q := (RX12, TX12, 103)) dX12_store_15 mi_X12_canFollow lk_X12_554 im_X12_canFollow se_X12_canFollow rfl c25 rfl rfl (Nat.le_of_ble_eq_true rfl) (t_X12_canFollow (by omega) hc12) ?_
    refine x_if_ne (tgt := 27) dX12_store_18 (by decide) (fun c13 => ?_) (fun c13 => ?_)
    · replace H := ite_m H c13
      refine x_aload_n dX12_store_27 rfl 0 rfl ?_
      obtain ⟨c24, H⟩ := ko_o H
      obtain ⟨v14, h15, hc16, H⟩ := bd_o H
      refine x_callVv (As := []) (q := (RX12, TX12, 103)) dX12_store_28 mi_X12_keeps lk_X12_528 im_X12_keeps se_X12_keeps rfl c24 rfl rfl (Nat.le_of_ble_eq_true rfl) (t_X12_keeps (by omega) hc16) ?_
      refine x_aload_n dX12_store_31 rfl 0 rfl ?_
      obtain ⟨c17, H⟩ := ko_o H
      obtain ⟨a18, c19, H⟩ := kr_o H
      refine x_getR fr_X12_115 dX12_store_32 c17 rfl c19 ?_
      refine x_sipush (v := 353) dX12_store_35 (by decide) ?_
      refine x_aload_n dX12_store_38 rfl 0 rfl ?_
      refine x_getR fr_X12_115 dX12_store_39 c17 rfl c19 ?_
      refine x_bipush (v := 8) dX12_store_42 (by decide) ?_
      refine x_iload_n dX12_store_44 rfl 1 rfl ?_
      refine x_imul dX12_store_45 ?_
      refine x_iconst (v := 1) dX12_store_46 (by decide) ?_
      refine x_iadd dX12_store_47 ?_
      obtain ⟨n21, c20, H⟩ := ka_o H
      obtain ⟨c22, H⟩ := chk_o H
      refine x_iald dX12_store_48 c20 (inb_in.mp c22) ?_
      refine x_iadd dX12_store_49 ?_
      refine x_iload_n dX12_store_50 rfl 2 rfl ?_
      obtain ⟨c23, H⟩ := chk_o H
      refine x_iast dX12_store_51 c20 (inb_in.mp c23) ?_
      refine x_iconst (v := 1) dX12_store_52 (by decide) ?_
      obtain ⟨rfl, rfl⟩ := so_1 H
      exact x_iret dX12_store_53 rfl (by decide)
    · replace H := ite_p H c13
      refine Ex.sub [0] rfl ?_
      exact t_X12_store_21 hd H
def f_X12_shelve_53 (x0 : Nat) (h : aH) : Option (Int32 × aH) :=
  ko h x0 11 <|
  bd (f_X12_refuses x0 4 h) fun v1 h2 =>
  some (v1, h2)
set_option maxRecDepth 100000 in
set_option maxHeartbeats 4000000 in
theorem t_X12_shelve_53 {Γ : gS} {d : Nat} (hd : 2 ≤ d) {x0 : Nat} {h : aH} {r : Int32} {h' : aH} (H : f_X12_shelve_53 x0 h = some (r, h')) : Ex Γ gX12_shelve d 53 [(0, .ref x0)] [] h (some (.int r)) h' := by
  unfold f_X12_shelve_53 at H
  obtain ⟨d, rfl⟩ : ∃ e, d = e + 1 := ⟨d - 1, by omega⟩
  refine x_aload_n dX12_shelve_53 rfl 0 rfl ?_
  refine x_iconst (v := 4) dX12_shelve_54 (by decide) ?_
  obtain ⟨c4, H⟩ := ko_o H
  obtain ⟨v1, h2, hc3, H⟩ := bd_o H
  refine x_callVi (As := [.int 4]) (q := (RX12, TX12, 103)) dX12_shelve_55 mi_X12_refuses lk_X12_345 im_X12_refuses se_X12_refuses rfl c4 rfl rfl (Nat.le_of_ble_eq_true rfl) (t_X12_refuses (by omega) hc3) ?_
  obtain ⟨rfl, rfl⟩ := so_1 H
  exact x_iret dX12_shelve_58 rfl rfl
def f_X12_shelve_87 (x0 : Nat) (x1 : Int32) (x2 : Int32) (x3 : Int32) (h : aH) : Option (Int32 × aH) :=
  if x3 = 4 then
    ko h x0 11 <|
    bd (f_X12_refuses x0 4 h) fun v18 h19 =>
    some (v18, h19)
  else
    ko h x0 11 <|
    bd (f_X12_keeps x0 h) fun _ h7 =>
    ko h7 x0 11 <|
    bd (f_X12_shelfAt x0 x2 x3 h7) fun v9 h10 =>
    ko h10 x0 11 <|
    bd (f_X12_copies x0 (8 * x1) v9 h10) fun _ h13 =>
    some (x3, h13)
set_option maxRecDepth 100000 in
set_option maxHeartbeats 4000000 in
theorem t_X12_shelve_87 {Γ : gS} {d : Nat} (hd : 2 ≤ d) {x0 : Nat} {x1 : Int32} {x2 : Int32} {x3 : Int32} {h : aH} {r : Int32} {h' : aH} (H : f_X12_shelve_87 x0 x1 x2 x3 h = some (r, h')) : Ex Γ gX12_shelve d 87 [(0, .ref x0), (1, .int x1), (2, .int x2), (3, .int x3)] [] h (some (.int r)) h' := by
  unfold f_X12_shelve_87 at H
  obtain ⟨d, rfl⟩ : ∃ e, d = e + 1 := ⟨d - 1, by omega⟩
  refine x_iload_n dX12_shelve_87 rfl 3 rfl ?_
  refine x_iconst (v := 4) dX12_shelve_88 (by decide) ?_
  refine x_icmp_ne (tgt := 98) dX12_shelve_89 (by decide) (fun c5 => ?_) (fun c5 => ?_)
  · replace H := ite_m H c5
    refine x_aload_n dX12_shelve_98 rfl 0 rfl ?_
    obtain ⟨c17, H⟩ := ko_o H
    obtain ⟨v6, h7, hc8, H⟩ := bd_o H
    refine x_callVv (As := []) (q := (RX12, TX12, 103)) dX12_shelve_99 mi_X12_keeps lk_X12_528 im_X12_keeps se_X12_keeps rfl c17 rfl rfl (Nat.le_of_ble_eq_true rfl) (t_X12_keeps (by omega) hc8) ?_
    refine x_aload_n dX12_shelve_102 rfl 0 rfl ?_
    refine x_bipush (v := 8) dX12_shelve_103 (by decide) ?_
    refine x_iload_n dX12_shelve_105 rfl 1 rfl ?_
    refine x_imul dX12_shelve_106 ?_
    refine x_aload_n dX12_shelve_107 rfl 0 rfl ?_
    refine x_iload_n dX12_shelve_108 rfl 2 rfl ?_
    refine x_iload_n dX12_shelve_109 rfl 3 rfl ?_
    obtain ⟨c16, H⟩ := ko_o H
    obtain ⟨v9, h10, hc11, H⟩ := bd_o H
    refine x_callVi (As := [.int x2, .int x3]) (q := (RX12, TX12, 103)) dX12_shelve_110 mi_X12_shelfAt lk_X12_480 im_X12_shelfAt se_X12_shelfAt rfl c16 rfl rfl (Nat.le_of_ble_eq_true rfl) (t_X12_shelfAt (by omega) hc11) ?_
    obtain ⟨c15, H⟩ := ko_o H
    obtain ⟨v12, h13, hc14, H⟩ := bd_o H
    refine x_callVv (As := [.int (8 * x1), .int v9]) (q := (RX12, TX12, 103)) dX12_shelve_113 mi_X12_copies lk_X12_543 im_X12_copies se_X12_copies rfl c15 rfl rfl (Nat.le_of_ble_eq_true rfl) (t_X12_copies (by omega) hc14) ?_
    refine x_iload_n dX12_shelve_116 rfl 3 rfl ?_
    obtain ⟨rfl, rfl⟩ := so_1 H
    exact x_iret dX12_shelve_117 rfl rfl
  · replace H := ite_p H c5
    refine x_aload_n dX12_shelve_92 rfl 0 rfl ?_
    refine x_iconst (v := 4) dX12_shelve_93 (by decide) ?_
    obtain ⟨c21, H⟩ := ko_o H
    obtain ⟨v18, h19, hc20, H⟩ := bd_o H
    refine x_callVi (As := [.int 4]) (q := (RX12, TX12, 103)) dX12_shelve_94 mi_X12_refuses lk_X12_345 im_X12_refuses se_X12_refuses rfl c21 rfl rfl (Nat.le_of_ble_eq_true rfl) (t_X12_refuses (by omega) hc20) ?_
    obtain ⟨rfl, rfl⟩ := so_1 H
    exact x_iret dX12_shelve_97 rfl rfl
def b_X12_shelve_61 (k61 : Nat → Int32 → Int32 → Int32 → aH → Option (Int32 × aH)) (x0 : Nat) (x1 : Int32) (x2 : Int32) (x3 : Int32) (h : aH) : Option (Int32 × aH) :=
  if 4 ≤ x3 then
    f_X12_shelve_87 x0 x1 x2 x3 h
  else
    ko h x0 11 <|
    kr (hR h x0 47) fun a24 =>
    bd (f_X12_shelfAt x0 x2 x3 h) fun v26 h27 =>
    ka h27 a24 .int fun n30 =>
    chk (inb v26 n30 = true) <|
    if (hI h27 a24 v26.toNatClampNeg) = (-1) then
      f_X12_shelve_87 x0 x1 x2 x3 h27
    else
      nm (x3 + 1) fun (v33 : Int32) =>
      k61 x0 x1 x2 v33 h27
set_option maxRecDepth 100000 in
set_option maxHeartbeats 4000000 in
theorem tb_X12_shelve_61 {Γ : gS} {d : Nat} (hd : 2 ≤ d) {k61 : Nat → Int32 → Int32 → Int32 → aH → Option (Int32 × aH)} (hk61 : ∀ {x0 : Nat} {x1 : Int32} {x2 : Int32} {x3 : Int32} {h : aH} {r : Int32} {h' : aH}, k61 x0 x1 x2 x3 h = some (r, h') → Ex Γ gX12_shelve d 61 [(0, .ref x0), (1, .int x1), (2, .int x2), (3, .int x3)] [] h (some (.int r)) h') {x0 : Nat} {x1 : Int32} {x2 : Int32} {x3 : Int32} {h : aH} {r : Int32} {h' : aH} (H : b_X12_shelve_61 k61 x0 x1 x2 x3 h = some (r, h')) : Ex Γ gX12_shelve d 61 [(0, .ref x0), (1, .int x1), (2, .int x2), (3, .int x3)] [] h (some (.int r)) h' := by
  unfold b_X12_shelve_61 at H
  obtain ⟨d, rfl⟩ : ∃ e, d = e + 1 := ⟨d - 1, by omega⟩
  refine x_iload_n dX12_shelve_61 rfl 3 rfl ?_
  refine x_iconst (v := 4) dX12_shelve_62 (by decide) ?_
  refine x_icmp_ge (tgt := 87) dX12_shelve_63 (by decide) (fun c22 => ?_) (fun c22 => ?_)
  · replace H := ite_p H c22
    exact t_X12_shelve_87 hd H
  · replace H := ite_m H c22
    refine x_aload_n dX12_shelve_66 rfl 0 rfl ?_
    obtain ⟨c23, H⟩ := ko_o H
    obtain ⟨a24, c25, H⟩ := kr_o H
    refine x_getR fr_X12_115 dX12_shelve_67 c23 rfl c25 ?_
    refine x_aload_n dX12_shelve_70 rfl 0 rfl ?_
    refine x_iload_n dX12_shelve_71 rfl 2 rfl ?_
    refine x_iload_n dX12_shelve_72 rfl 3 rfl ?_
    obtain ⟨v26, h27, hc28, H⟩ := bd_o H
    refine x_callVi (As := [.int x2, .int x3]) (q := (RX12, TX12, 103)) dX12_shelve_73 mi_X12_shelfAt lk_X12_480 im_X12_shelfAt se_X12_shelfAt rfl c23 rfl rfl (Nat.le_of_ble_eq_true rfl) (t_X12_shelfAt (by omega) hc28) ?_
    obtain ⟨n30, c29, H⟩ := ka_o H
    obtain ⟨c31, H⟩ := chk_o H
    refine x_iald dX12_shelve_76 c29 (inb_in.mp c31) ?_
    refine x_iconst (v := (-1)) dX12_shelve_77 (by decide) ?_
    refine x_icmp_eq (tgt := 87) dX12_shelve_78 (by decide) (fun c32 => ?_) (fun c32 => ?_)
    · replace H := ite_p H c32
      exact t_X12_shelve_87 hd H
    · replace H := ite_m H c32
      obtain ⟨v33, ev33, H⟩ := nm_o H
      refine x_iinc (v := v33) (lv' := [(3, .int v33), (0, .ref x0), (1, .int x1), (2, .int x2)]) dX12_shelve_81 3 rfl (by decide) ev33 rfl ?_
      refine x_goto (tgt := 61) dX12_shelve_84 (by decide) ?_
      refine Ex.sub [1, 2, 3, 0] rfl ?_
      exact hk61 H
def f_X12_shelve_61 : Nat → Nat → Int32 → Int32 → Int32 → aH → Option (Int32 × aH)
  | 0 => fun _ _ _ _ _ => none
  | n + 1 => b_X12_shelve_61 (f_X12_shelve_61 n)
set_option maxRecDepth 100000 in
set_option maxHeartbeats 4000000 in
theorem t_X12_shelve_61 {Γ : gS} {d : Nat} (hd : 2 ≤ d) (n : Nat) : ∀ {x0 : Nat} {x1 : Int32} {x2 : Int32} {x3 : Int32} {h : aH} {r : Int32} {h' : aH}, f_X12_shelve_61 n x0 x1 x2 x3 h = some (r, h') → Ex Γ gX12_shelve d 61 [(0, .ref x0), (1, .int x1), (2, .int x2), (3, .int x3)] [] h (some (.int r)) h' := by
  induction n with
  | zero => intro x0 x1 x2 x3 h r h' H; cases H
  | succ n ih => intro x0 x1 x2 x3 h r h' H; exact tb_X12_shelve_61 hd ih H
def f_X12_shelve (x0 : Nat) (x1 : Int32) (x2 : Int32) (h : aH) : Option (Int32 × aH) :=
  ko h x0 11 <|
  bd (f_X12_isPointer x0 x1.toInt64 h) fun v34 h35 =>
  if v34 = 0 then
    f_X12_shelve_53 x0 h35
  else
    ko h35 x0 11 <|
    bd (f_X12_isShelf x0 x2 h35) fun v38 h39 =>
    if v38 = 0 then
      f_X12_shelve_53 x0 h39
    else
      ko h39 x0 11 <|
      kr (hR h39 x0 47) fun a43 =>
      ka h39 a43 .int fun n46 =>
      chk (inb (8 * x1) n46 = true) <|
      if (hI h39 a43 (8 * x1 : Int32).toNatClampNeg) = 1 then
        chk (inb ((8 * x1) + 6) n46 = true) <|
        kr (hR h39 x0 39) fun a50 =>
        ka h39 a50 .int fun n53 =>
        chk (inb (4 + x2) n53 = true) <|
        if (hI h39 a43 ((8 * x1) + 6 : Int32).toNatClampNeg) = (hI h39 a50 (4 + x2 : Int32).toNatClampNeg) then
          f_X12_shelve_61 FU x0 x1 x2 0 h39
        else
          f_X12_shelve_53 x0 h39
      else
        f_X12_shelve_53 x0 h39
set_option maxRecDepth 100000 in
set_option maxHeartbeats 4000000 in
theorem t_X12_shelve {Γ : gS} {d : Nat} (hd : 2 ≤ d) {x0 : Nat} {x1 : Int32} {x2 : Int32} {h : aH} {r : Int32} {h' : aH} (H : f_X12_shelve x0 x1 x2 h = some (r, h')) : Mx Γ gX12_shelve d [.ref x0, .int x1, .int x2] h (some (.int r)) h' := by
  refine Mx.of (by decide +kernel) (Nat.le_of_ble_eq_true rfl) ?_
  unfold f_X12_shelve at H
  show Ex Γ gX12_shelve d 0 [(0, .ref x0), (1, .int x1), (2, .int x2)] [] h (some (.int r)) h'
  obtain ⟨d, rfl⟩ : ∃ e, d = e + 1 := ⟨d - 1, by omega⟩
  refine x_aload_n dX12_shelve_0 rfl 0 rfl ?_
  refine x_iload_n dX12_shelve_1 rfl 1 rfl ?_
  refine x_i2l dX12_shelve_2 ?_
  obtain ⟨c57, H⟩ := ko_o H
  obtain ⟨v34, h35, hc36, H⟩ := bd_o H
  refine x_callVi (As := [.long x1.toInt64]) (q := (RX12, TX12, 103)) dX12_shelve_3 mi_X12_isPointer lk_X12_418 im_X12_isPointer se_X12_isPointer rfl c57 rfl rfl (Nat.le_of_ble_eq_true rfl) (t_X12_isPointer (by omega) hc36) ?_
  refine x_if_eq (tgt := 53) dX12_shelve_6 (by decide) (fun c37 => ?_) (fun c37 => ?_)
  · replace H := ite_p H c37
    refine Ex.sub [0] rfl ?_
    exact t_X12_shelve_53 hd H
  · replace H := ite_m H c37
    refine x_aload_n dX12_shelve_9 rfl 0 rfl ?_
    refine x_iload_n dX12_shelve_10 rfl 2 rfl ?_
    obtain ⟨c56, H⟩ := ko_o H
    obtain ⟨v38, h39, hc40, H⟩ := bd_o H
    refine x_callVi (As := [.int x2]) (q := (RX12, TX12, 103)) dX12_shelve_11 mi_X12_isShelf lk_X12_472 im_X12_isShelf se_X12_isShelf rfl c56 rfl rfl (Nat.le_of_ble_eq_true rfl) (t_X12_isShelf (by omega) hc40) ?_
    refine x_if_eq (tgt := 53) dX12_shelve_14 (by decide) (fun c41 => ?_) (fun c41 => ?_)
    · replace H := ite_p H c41
      refine Ex.sub [0] rfl ?_
      exact t_X12_shelve_53 hd H
    · replace H := ite_m H c41
      refine x_aload_n dX12_shelve_17 rfl 0 rfl ?_
      obtain ⟨c42, H⟩ := ko_o H
      obtain ⟨a43, c44, H⟩ := kr_o H
      refine x_getR fr_X12_115 dX12_shelve_18 c42 rfl c44 ?_
      refine x_bipush (v := 8) dX12_shelve_21 (by decide) ?_
      refine x_iload_n dX12_shelve_23 rfl 1 rfl ?_
      refine x_imul dX12_shelve_24 ?_
      obtain ⟨n46, c45, H⟩ := ka_o H
      obtain ⟨c47, H⟩ := chk_o H
      refine x_iald dX12_shelve_25 c45 (inb_in.mp c47) ?_
      refine x_iconst (v := 1) dX12_shelve_26 (by decide) ?_
      refine x_icmp_ne (tgt := 53) dX12_shelve_27 (by decide) (fun c48 => ?_) (fun c48 => ?_)
      · replace H := ite_m H c48
        refine Ex.sub [0] rfl ?_
        exact t_X12_shelve_53 hd H
      · replace H := ite_p H c48
        refine x_aload_n dX12_shelve_30 rfl 0 rfl ?_
        refine x_getR fr_X12_115 dX12_shelve_31 c42 rfl c44 ?_
        refine x_bipush (v := 8) dX12_shelve_34 (by decide) ?_
        refine x_iload_n dX12_shelve_36 rfl 1 rfl ?_
        refine x_imul dX12_shelve_37 ?_
        refine x_bipush (v := 6) dX12_shelve_38 (by decide) ?_
        refine x_iadd dX12_shelve_40 ?_
        obtain ⟨c49, H⟩ := chk_o H
        refine x_iald dX12_shelve_41 c45 (inb_in.mp c49) ?_
        refine x_aload_n dX12_shelve_42 rfl 0 rfl ?_
        obtain ⟨a50, c51, H⟩ := kr_o H
        refine x_getR fr_X12_103 dX12_shelve_43 c42 rfl c51 ?_
        refine x_iconst (v := 4) dX12_shelve_46 (by decide) ?_
        refine x_iload_n dX12_shelve_47 rfl 2 rfl ?_
        refine x_iadd dX12_shelve_48 ?_
        obtain ⟨n53, c52, H⟩ := ka_o H
        obtain ⟨c54, H⟩ := chk_o H
        refine x_iald dX12_shelve_49 c52 (inb_in.mp c54) ?_
        refine x_icmp_eq (tgt := 59) dX12_shelve_50 (by decide) (fun c55 => ?_) (fun c55 => ?_)
        · replace H := ite_p H c55
          refine x_iconst (v := 0) dX12_shelve_59 (by decide) ?_
          refine x_istore_n (lv' := [(3, .int 0), (0, .ref x0), (1, .int x1), (2, .int x2)]) dX12_shelve_60 rfl (by decide) rfl rfl ?_
          refine Ex.sub [1, 2, 3, 0] rfl ?_
          exact t_X12_shelve_61 hd FU H
        · replace H := ite_m H c55
          refine Ex.sub [0] rfl ?_
          exact t_X12_shelve_53 hd H
def f_X12_take_44 (x0 : Nat) (h : aH) : Option (Int32 × aH) :=
  ko h x0 11 <|
  bd (f_X12_isRefused x0 4 h) fun v1 h2 =>
  chk (narrow .boolean (.int v1) = .int v1) <|
  some (v1, h2)
set_option maxRecDepth 100000 in
set_option maxHeartbeats 4000000 in
theorem t_X12_take_44 {Γ : gS} {d : Nat} (hd : 2 ≤ d) {x0 : Nat} {h : aH} {r : Int32} {h' : aH} (H : f_X12_take_44 x0 h = some (r, h')) : Ex Γ gX12_take d 44 [(0, .ref x0)] [] h (some (.int r)) h' := by
  unfold f_X12_take_44 at H
  obtain ⟨d, rfl⟩ : ∃ e, d = e + 1 := ⟨d - 1, by omega⟩
  refine x_aload_n dX12_take_44 rfl 0 rfl ?_
  refine x_iconst (v := 4) dX12_take_45 (by decide) ?_
  obtain ⟨c5, H⟩ := ko_o H
  obtain ⟨v1, h2, hc3, H⟩ := bd_o H
  refine x_callVi (As := [.int 4]) (q := (RX12, TX12, 103)) dX12_take_46 mi_X12_isRefused lk_X12_540 im_X12_isRefused se_X12_isRefused rfl c5 rfl rfl (Nat.le_of_ble_eq_true rfl) (t_X12_isRefused (by omega) hc3) ?_
  obtain ⟨c4, H⟩ := chk_o H
  obtain ⟨rfl, rfl⟩ := so_1 H
  exact x_iret dX12_take_49 rfl c4
def f_X12_take (x0 : Nat) (x1 : Int32) (x2 : Int32) (x3 : Int32) (h : aH) : Option (Int32 × aH) :=
  ko h x0 11 <|
  bd (f_X12_isPointer x0 x3.toInt64 h) fun v6 h7 =>
  if v6 = 0 then
    f_X12_take_44 x0 h7
  else
    ko h7 x0 11 <|
    bd (f_X12_isShelf x0 x1 h7) fun v10 h11 =>
    if v10 = 0 then
      f_X12_take_44 x0 h11
    else
      bd (f_X12_isIn x2.toInt64 0 3 h11) fun v14 h15 =>
      if v14 = 0 then
        f_X12_take_44 x0 h15
      else
        ko h15 x0 11 <|
        kr (hR h15 x0 47) fun a19 =>
        bd (f_X12_shelfAt x0 x1 x2 h15) fun v21 h22 =>
        ka h22 a19 .int fun n25 =>
        chk (inb v21 n25 = true) <|
        if (hI h22 a19 v21.toNatClampNeg) = (-1) then
          f_X12_take_44 x0 h22
        else
          ko h22 x0 11 <|
          bd (f_X12_keeps x0 h22) fun _ h29 =>
          ko h29 x0 11 <|
          bd (f_X12_shelfAt x0 x1 x2 h29) fun v31 h32 =>
          ko h32 x0 11 <|
          bd (f_X12_copies x0 v31 (8 * x3) h32) fun _ h35 =>
          ko h35 x0 11 <|
          kr (hR h35 x0 47) fun a38 =>
          bd (f_X12_shelfAt x0 x1 x2 h35) fun v40 h41 =>
          ka h41 a38 .int fun n44 =>
          chk (inb v40 n44 = true) <|
          some (1, sI h41 a38 v40.toNatClampNeg (-1))
set_option maxRecDepth 100000 in
set_option maxHeartbeats 4000000 in
theorem t_X12_take {Γ : gS} {d : Nat} (hd : 2 ≤ d) {x0 : Nat} {x1 : Int32} {x2 : Int32} {x3 : Int32} {h : aH} {r : Int32} {h' : aH} (H : f_X12_take x0 x1 x2 x3 h = some (r, h')) : Mx Γ gX12_take d [.ref x0, .int x1, .int x2, .int x3] h (some (.int r)) h' := by
  refine Mx.of (by decide +kernel) (Nat.le_of_ble_eq_true rfl) ?_
  unfold f_X12_take at H
  show Ex Γ gX12_take d 0 [(0, .ref x0), (1, .int x1), (2, .int x2), (3, .int x3)] [] h (some (.int r)) h'
  obtain ⟨d, rfl⟩ : ∃ e, d = e + 1 := ⟨d - 1, by omega⟩
  refine x_aload_n dX12_take_0 rfl 0 rfl ?_
  refine x_iload_n dX12_take_1 rfl 3 rfl ?_
  refine x_i2l dX12_take_2 ?_
  obtain ⟨c50, H⟩ := ko_o H
  obtain ⟨v6, h7, hc8, H⟩ := bd_o H
  refine x_callVi (As := [.long x3.toInt64]) (q := (RX12, TX12, 103)) dX12_take_3 mi_X12_isPointer lk_X12_418 im_X12_isPointer se_X12_isPointer rfl c50 rfl rfl (Nat.le_of_ble_eq_true rfl) (t_X12_isPointer (by omega) hc8) ?_
  refine x_if_eq (tgt := 44) dX12_take_6 (by decide) (fun c9 => ?_) (fun c9 => ?_)
  · replace H := ite_p H c9
    refine Ex.sub [0] rfl ?_
    exact t_X12_take_44 hd H
  · replace H := ite_m H c9
    refine x_aload_n dX12_take_9 rfl 0 rfl ?_
    refine x_iload_n dX12_take_10 rfl 1 rfl ?_
    obtain ⟨c49, H⟩ := ko_o H
    obtain ⟨v10, h11, hc12, H⟩ := bd_o H
    refine x_callVi (As := [.int x1]) (q := (RX12, TX12, 103)) dX12_take_11 mi_X12_isShelf lk_X12_472 im_X12_isShelf se_X12_isShelf rfl c49 rfl rfl (Nat.le_of_ble_eq_true rfl) (t_X12_isShelf (by omega) hc12) ?_
    refine x_if_eq (tgt := 44) dX12_take_14 (by decide) (fun c13 => ?_) (fun c13 => ?_)
    · replace H := ite_p H c13
      refine Ex.sub [0] rfl ?_
      exact t_X12_take_44 hd H
    · replace H := ite_m H c13
      refine x_iload_n dX12_take_17 rfl 2 rfl ?_
      refine x_i2l dX12_take_18 ?_
      refine x_lconst (v := 0) dX12_take_19 (by decide) ?_
      refine x_ldc2 kc_X12_286 dX12_take_20 ?_
      obtain ⟨v14, h15, hc16, H⟩ := bd_o H
      refine x_callSi (As := [.long x2.toInt64, .long 0, .long 3]) dX12_take_23 mi_X12_isIn lk_X12_268 sm_X12_isIn rfl rfl (Nat.le_of_ble_eq_true rfl) (t_X12_isIn (by omega) hc16) ?_
      refine x_if_eq (tgt := 44) dX12_take_26 (by decide) (fun c17 => ?_) (fun c17 => ?_)
      · replace H := ite_p H c17
        refine Ex.sub [0] rfl ?_
        exact t_X12_take_44 hd H
      · replace H := ite_m H c17
        refine x_aload_n dX12_take_29 rfl 0 rfl ?_
        obtain ⟨c18, H⟩ := ko_o H
        obtain ⟨a19, c20, H⟩ := kr_o H
        refine x_getR fr_X12_115 dX12_take_30 c18 rfl c20 ?_
        refine x_aload_n dX12_take_33 rfl 0 rfl ?_
        refine x_iload_n dX12_take_34 rfl 1 rfl ?_
        refine x_iload_n dX12_take_35 rfl 2 rfl ?_
        obtain ⟨v21, h22, hc23, H⟩ := bd_o H
        refine x_callVi (As := [.int x1, .int x2]) (q := (RX12, TX12, 103)) dX12_take_36 mi_X12_shelfAt lk_X12_480 im_X12_shelfAt se_X12_shelfAt rfl c18 rfl rfl (Nat.le_of_ble_eq_true rfl) (t_X12_shelfAt (by omega) hc23) ?_
        obtain ⟨n25, c24, H⟩ := ka_o H
        obtain ⟨c26, H⟩ := chk_o H
        refine x_iald dX12_take_39 c24 (inb_in.mp c26) ?_
        refine x_iconst (v := (-1)) dX12_take_40 (by decide) ?_
        refine x_icmp_ne (tgt := 50) dX12_take_41 (by decide) (fun c27 => ?_) (fun c27 => ?_)
        · replace H := ite_m H c27
          refine x_aload_n dX12_take_50 rfl 0 rfl ?_
          obtain ⟨c48, H⟩ := ko_o H
          obtain ⟨v28, h29, hc30, H⟩ := bd_o H
          refine x_callVv (As := []) (q := (RX12, TX12, 103)) dX12_take_51 mi_X12_keeps lk_X12_528 im_X12_keeps se_X12_keeps rfl c48 rfl rfl (Nat.le_of_ble_eq_true rfl) (t_X12_keeps (by omega) hc30) ?_
          refine x_aload_n dX12_take_54 rfl 0 rfl ?_
          refine x_aload_n dX12_take_55 rfl 0 rfl ?_
          refine x_iload_n dX12_take_56 rfl 1 rfl ?_
          refine x_iload_n dX12_take_57 rfl 2 rfl ?_
          obtain ⟨c47, H⟩ := ko_o H
          obtain ⟨v31, h32, hc33, H⟩ := bd_o H
          refine x_callVi (As := [.int x1, .int x2]) (q := (RX12, TX12, 103)) dX12_take_58 mi_X12_shelfAt lk_X12_480 im_X12_shelfAt se_X12_shelfAt rfl c47 rfl rfl (Nat.le_of_ble_eq_true rfl) (t_X12_shelfAt (by omega) hc33) ?_
          refine x_bipush (v := 8) dX12_take_61 (by decide) ?_
          refine x_iload_n dX12_take_63 rfl 3 rfl ?_
          refine x_imul dX12_take_64 ?_
          obtain ⟨c46, H⟩ := ko_o H
          obtain ⟨v34, h35, hc36, H⟩ := bd_o H
          refine x_callVv (As := [.int v31, .int (8 * x3)]) (q := (RX12, TX12, 103)) dX12_take_65 mi_X12_copies lk_X12_543 im_X12_copies se_X12_copies rfl c46 rfl rfl (Nat.le_of_ble_eq_true rfl) (t_X12_copies (by omega) hc36) ?_
          refine x_aload_n dX12_take_68 rfl 0 rfl ?_
          obtain ⟨c37, H⟩ := ko_o H
          obtain ⟨a38, c39, H⟩ := kr_o H
          refine x_getR fr_X12_115 dX12_take_69 c37 rfl c39 ?_
          refine x_aload_n dX12_take_72 rfl 0 rfl ?_
          refine x_iload_n dX12_take_73 rfl 1 rfl ?_
          refine x_iload_n dX12_take_74 rfl 2 rfl ?_
          obtain ⟨v40, h41, hc42, H⟩ := bd_o H
          refine x_callVi (As := [.int x1, .int x2]) (q := (RX12, TX12, 103)) dX12_take_75 mi_X12_shelfAt lk_X12_480 im_X12_shelfAt se_X12_shelfAt rfl c37 rfl rfl (Nat.le_of_ble_eq_true rfl) (t_X12_shelfAt (by omega) hc42) ?_
          refine x_iconst (v := (-1)) dX12_take_78 (by decide) ?_
          obtain ⟨n44, c43, H⟩ := ka_o H
          obtain ⟨c45, H⟩ := chk_o H
          refine x_iast dX12_take_79 c43 (inb_in.mp c45) ?_
          refine x_iconst (v := 1) dX12_take_80 (by decide) ?_
          obtain ⟨rfl, rfl⟩ := so_1 H
          exact x_iret dX12_take_81 rfl (by decide)
        · replace H := ite_p H c27
          refine Ex.sub [0] rfl ?_
          exact t_X12_take_44 hd H
def f_X12_seed (x0 : Nat) (x1 : Int32) (h : aH) : Option (Int32 × aH) :=
  if 0 ≤ x1 then
    ko h x0 11 <|
    some (1, sL h x0 65 x1.toInt64)
  else
    ko h x0 11 <|
    bd (f_X12_isRefused x0 7 h) fun v3 h4 =>
    chk (narrow .boolean (.int v3) = .int v3) <|
    some (v3, h4)
set_option maxRecDepth 100000 in
set_option maxHeartbeats 4000000 in
theorem t_X12_seed {Γ : gS} {d : Nat} (hd : 1 ≤ d) {x0 : Nat} {x1 : Int32} {h : aH} {r : Int32} {h' : aH} (H : f_X12_seed x0 x1 h = some (r, h')) : Mx Γ gX12_seed d [.ref x0, .int x1] h (some (.int r)) h' := by
  refine Mx.of (by decide +kernel) (Nat.le_of_ble_eq_true rfl) ?_
  unfold f_X12_seed at H
  show Ex Γ gX12_seed d 0 [(0, .ref x0), (1, .int x1)] [] h (some (.int r)) h'
  obtain ⟨d, rfl⟩ : ∃ e, d = e + 1 := ⟨d - 1, by omega⟩
  refine x_iload_n dX12_seed_0 rfl 1 rfl ?_
  refine x_if_ge (tgt := 11) dX12_seed_1 (by decide) (fun c1 => ?_) (fun c1 => ?_)
  · replace H := ite_p H c1
    refine x_aload_n dX12_seed_11 rfl 0 rfl ?_
    refine x_iload_n dX12_seed_12 rfl 1 rfl ?_
    refine x_i2l dX12_seed_13 ?_
    obtain ⟨c2, H⟩ := ko_o H
    refine x_putL fl_X12_131 dX12_seed_14 c2 (fun e => by cases e) rfl ?_
    refine x_iconst (v := 1) dX12_seed_17 (by decide) ?_
    obtain ⟨rfl, rfl⟩ := so_1 H
    exact x_iret dX12_seed_18 rfl (by decide)
  · replace H := ite_m H c1
    refine x_aload_n dX12_seed_4 rfl 0 rfl ?_
    refine x_bipush (v := 7) dX12_seed_5 (by decide) ?_
    obtain ⟨c7, H⟩ := ko_o H
    obtain ⟨v3, h4, hc5, H⟩ := bd_o H
    refine x_callVi (As := [.int 7]) (q := (RX12, TX12, 103)) dX12_seed_7 mi_X12_isRefused lk_X12_540 im_X12_isRefused se_X12_isRefused rfl c7 rfl rfl (Nat.le_of_ble_eq_true rfl) (t_X12_isRefused (by omega) hc5) ?_
    obtain ⟨c6, H⟩ := chk_o H
    obtain ⟨rfl, rfl⟩ := so_1 H
    exact x_iret dX12_seed_10 rfl c6
def f_X12_drawOf (x0 : Nat) (x1 : Int32) (h : aH) : Option (Int32 × aH) :=
  ko h x0 11 <|
  nm (hL (sL h x0 65 (((1103515245 * (hL h x0 65)) + 12345) - ((1103515245 * (hL h x0 65)) + 12345) / 2147483648 * 2147483648)) x0 65) fun (v2 : Int64) =>
  chk (¬ x1.toInt64 = 0) <|
  some (((v2 / 64) - (v2 / 64) / x1.toInt64 * x1.toInt64 : Int64).toInt32, sL h x0 65 (((1103515245 * (hL h x0 65)) + 12345) - ((1103515245 * (hL h x0 65)) + 12345) / 2147483648 * 2147483648))
set_option maxRecDepth 100000 in
set_option maxHeartbeats 4000000 in
theorem t_X12_drawOf {Γ : gS} {d : Nat} (hd : 0 ≤ d) {x0 : Nat} {x1 : Int32} {h : aH} {r : Int32} {h' : aH} (H : f_X12_drawOf x0 x1 h = some (r, h')) : Mx Γ gX12_drawOf d [.ref x0, .int x1] h (some (.int r)) h' := by
  refine Mx.of (by decide +kernel) (Nat.le_of_ble_eq_true rfl) ?_
  unfold f_X12_drawOf at H
  show Ex Γ gX12_drawOf d 0 [(0, .ref x0), (1, .int x1)] [] h (some (.int r)) h'
  refine x_aload_n dX12_drawOf_0 rfl 0 rfl ?_
  refine x_ldc2 kc_X12_559 dX12_drawOf_1 ?_
  refine x_aload_n dX12_drawOf_4 rfl 0 rfl ?_
  obtain ⟨c1, H⟩ := ko_o H
  refine x_getL fr_X12_131 dX12_drawOf_5 c1 rfl ?_
  refine x_lmul dX12_drawOf_8 ?_
  refine x_ldc2 kc_X12_561 dX12_drawOf_9 ?_
  refine x_ladd dX12_drawOf_12 ?_
  refine x_ldc2 kc_X12_563 dX12_drawOf_13 ?_
  refine x_lrem dX12_drawOf_16 (by decide) ?_
  refine x_putL fl_X12_131 dX12_drawOf_17 c1 (fun e => by cases e) rfl ?_
  refine x_aload_n dX12_drawOf_20 rfl 0 rfl ?_
  obtain ⟨v2, ev2, H⟩ := nm_o H
  refine x_getLe fr_X12_131 dX12_drawOf_21 c1 rfl ev2 ?_
  refine x_ldc2 kc_X12_565 dX12_drawOf_24 ?_
  refine x_ldiv dX12_drawOf_27 (by decide) ?_
  refine x_iload_n dX12_drawOf_28 rfl 1 rfl ?_
  refine x_i2l dX12_drawOf_29 ?_
  obtain ⟨c3, H⟩ := chk_o H
  refine x_lrem dX12_drawOf_30 c3 ?_
  refine x_l2i dX12_drawOf_31 ?_
  obtain ⟨rfl, rfl⟩ := so_1 H
  exact x_iret dX12_drawOf_32 rfl rfl
def f_X12_isDrawn (x0 : Nat) (h : aH) : Option (Int32 × aH) :=
  ko h x0 11 <|
  bd (f_X12_drawOf x0 3 h) fun v1 h2 =>
  ko h2 x0 11 <|
  bd (f_X12_drawOf x0 15 h2) fun v4 h5 =>
  if v1 = 2 then
    ko h5 x0 11 <|
    bd (f_X12_objectBy x0 v4 h5) fun v22 h23 =>
    if v22 = (-1) then
      some (0, h23)
    else
      ko h23 x0 11 <|
      bd (f_X12_frees x0 v22 h23) fun _ h27 =>
      some (1, h27)
  else
    ko h5 x0 11 <|
    bd (f_X12_drawOf x0 16 h5) fun v8 h9 =>
    nm (v8 + 1) fun (v11 : Int32) =>
    ko h9 x0 11 <|
    bd (f_X12_roomFor x0 v11 h9) fun v12 h13 =>
    if v12 = (-1) then
      some (0, h13)
    else
      ko h13 x0 11 <|
      bd (f_X12_allocates x0 v4 v12 v11 h13) fun _ h17 =>
      some (1, h17)
set_option maxRecDepth 100000 in
set_option maxHeartbeats 4000000 in
theorem t_X12_isDrawn {Γ : gS} {d : Nat} (hd : 8 ≤ d) {x0 : Nat} {h : aH} {r : Int32} {h' : aH} (H : f_X12_isDrawn x0 h = some (r, h')) : Mx Γ gX12_isDrawn d [.ref x0] h (some (.int r)) h' := by
  refine Mx.of (by decide +kernel) (Nat.le_of_ble_eq_true rfl) ?_
  unfold f_X12_isDrawn at H
  show Ex Γ gX12_isDrawn d 0 [(0, .ref x0)] [] h (some (.int r)) h'
  obtain ⟨d, rfl⟩ : ∃ e, d = e + 1 := ⟨d - 1, by omega⟩
  refine x_aload_n dX12_isDrawn_0 rfl 0 rfl ?_
  refine x_iconst (v := 3) dX12_isDrawn_1 (by decide) ?_
  obtain ⟨c32, H⟩ := ko_o H
  obtain ⟨v1, h2, hc3, H⟩ := bd_o H
  refine x_callVi (As := [.int 3]) (q := (RX12, TX12, 103)) dX12_isDrawn_2 mi_X12_drawOf lk_X12_567 im_X12_drawOf se_X12_drawOf rfl c32 rfl rfl (Nat.le_of_ble_eq_true rfl) (t_X12_drawOf (by omega) hc3) ?_
  refine x_istore_n (lv' := [(1, .int v1), (0, .ref x0)]) dX12_isDrawn_5 rfl (by decide) rfl rfl ?_
  refine x_aload_n dX12_isDrawn_6 rfl 1 rfl ?_
  refine x_bipush (v := 15) dX12_isDrawn_7 (by decide) ?_
  obtain ⟨c31, H⟩ := ko_o H
  obtain ⟨v4, h5, hc6, H⟩ := bd_o H
  refine x_callVi (As := [.int 15]) (q := (RX12, TX12, 103)) dX12_isDrawn_9 mi_X12_drawOf lk_X12_567 im_X12_drawOf se_X12_drawOf rfl c31 rfl rfl (Nat.le_of_ble_eq_true rfl) (t_X12_drawOf (by omega) hc6) ?_
  refine x_istore_n (lv' := [(2, .int v4), (1, .int v1), (0, .ref x0)]) dX12_isDrawn_12 rfl (by decide) rfl rfl ?_
  refine x_iload_n dX12_isDrawn_13 rfl 1 rfl ?_
  refine x_iconst (v := 2) dX12_isDrawn_14 (by decide) ?_
  refine x_icmp_ne (tgt := 38) dX12_isDrawn_15 (by decide) (fun c7 => ?_) (fun c7 => ?_)
  · replace H := ite_m H c7
    refine x_aload_n dX12_isDrawn_38 rfl 2 rfl ?_
    refine x_bipush (v := 16) dX12_isDrawn_39 (by decide) ?_
    obtain ⟨c21, H⟩ := ko_o H
    obtain ⟨v8, h9, hc10, H⟩ := bd_o H
    refine x_callVi (As := [.int 16]) (q := (RX12, TX12, 103)) dX12_isDrawn_41 mi_X12_drawOf lk_X12_567 im_X12_drawOf se_X12_drawOf rfl c21 rfl rfl (Nat.le_of_ble_eq_true rfl) (t_X12_drawOf (by omega) hc10) ?_
    refine x_iconst (v := 1) dX12_isDrawn_44 (by decide) ?_
    refine x_iadd dX12_isDrawn_45 ?_
    obtain ⟨v11, ev11, H⟩ := nm_o H
    refine x_istore_n (lv' := [(3, .int v11), (2, .int v4), (1, .int v1), (0, .ref x0)]) dX12_isDrawn_46 rfl (by decide) ev11 rfl ?_
    refine x_aload_n dX12_isDrawn_47 rfl 3 rfl ?_
    refine x_iload_n dX12_isDrawn_48 rfl 0 rfl ?_
    obtain ⟨c20, H⟩ := ko_o H
    obtain ⟨v12, h13, hc14, H⟩ := bd_o H
    refine x_callVi (As := [.int v11]) (q := (RX12, TX12, 103)) dX12_isDrawn_49 mi_X12_roomFor lk_X12_509 im_X12_roomFor se_X12_roomFor rfl c20 rfl rfl (Nat.le_of_ble_eq_true rfl) (t_X12_roomFor (by omega) hc14) ?_
    refine x_istore (lv' := [(4, .int v12), (3, .int v11), (2, .int v4), (1, .int v1), (0, .ref x0)]) dX12_isDrawn_52 (by decide) rfl rfl ?_
    refine x_iload dX12_isDrawn_54 0 rfl ?_
    refine x_iconst (v := (-1)) dX12_isDrawn_56 (by decide) ?_
    refine x_icmp_ne (tgt := 62) dX12_isDrawn_57 (by decide) (fun c15 => ?_) (fun c15 => ?_)
    · replace H := ite_m H c15
      refine x_aload_n dX12_isDrawn_62 rfl 4 rfl ?_
      refine x_iload_n dX12_isDrawn_63 rfl 2 rfl ?_
      refine x_iload dX12_isDrawn_64 0 rfl ?_
      refine x_iload_n dX12_isDrawn_66 rfl 1 rfl ?_
      obtain ⟨c19, H⟩ := ko_o H
      obtain ⟨v16, h17, hc18, H⟩ := bd_o H
      refine x_callVv (As := [.int v4, .int v12, .int v11]) (q := (RX12, TX12, 103)) dX12_isDrawn_67 mi_X12_allocates lk_X12_531 im_X12_allocates se_X12_allocates rfl c19 rfl rfl (Nat.le_of_ble_eq_true rfl) (t_X12_allocates (by omega) hc18) ?_
      refine x_iconst (v := 1) dX12_isDrawn_70 (by decide) ?_
      obtain ⟨rfl, rfl⟩ := so_1 H
      exact x_iret dX12_isDrawn_71 rfl (by decide)
    · replace H := ite_p H c15
      refine x_iconst (v := 0) dX12_isDrawn_60 (by decide) ?_
      obtain ⟨rfl, rfl⟩ := so_1 H
      exact x_iret dX12_isDrawn_61 rfl (by decide)
  · replace H := ite_p H c7
    refine x_aload_n dX12_isDrawn_18 rfl 2 rfl ?_
    refine x_iload_n dX12_isDrawn_19 rfl 0 rfl ?_
    obtain ⟨c30, H⟩ := ko_o H
    obtain ⟨v22, h23, hc24, H⟩ := bd_o H
    refine x_callVi (As := [.int v4]) (q := (RX12, TX12, 103)) dX12_isDrawn_20 mi_X12_objectBy lk_X12_534 im_X12_objectBy se_X12_objectBy rfl c30 rfl rfl (Nat.le_of_ble_eq_true rfl) (t_X12_objectBy (by omega) hc24) ?_
    refine x_istore_n (lv' := [(3, .int v22), (2, .int v4), (1, .int v1), (0, .ref x0)]) dX12_isDrawn_23 rfl (by decide) rfl rfl ?_
    refine x_iload_n dX12_isDrawn_24 rfl 0 rfl ?_
    refine x_iconst (v := (-1)) dX12_isDrawn_25 (by decide) ?_
    refine x_icmp_ne (tgt := 31) dX12_isDrawn_26 (by decide) (fun c25 => ?_) (fun c25 => ?_)
    · replace H := ite_m H c25
      refine x_aload_n dX12_isDrawn_31 rfl 3 rfl ?_
      refine x_iload_n dX12_isDrawn_32 rfl 0 rfl ?_
      obtain ⟨c29, H⟩ := ko_o H
      obtain ⟨v26, h27, hc28, H⟩ := bd_o H
      refine x_callVv (As := [.int v22]) (q := (RX12, TX12, 103)) dX12_isDrawn_33 mi_X12_frees lk_X12_537 im_X12_frees se_X12_frees rfl c29 rfl rfl (Nat.le_of_ble_eq_true rfl) (t_X12_frees (by omega) hc28) ?_
      refine x_iconst (v := 1) dX12_isDrawn_36 (by decide) ?_
      obtain ⟨rfl, rfl⟩ := so_1 H
      exact x_iret dX12_isDrawn_37 rfl (by decide)
    · replace H := ite_p H c25
      refine x_iconst (v := 0) dX12_isDrawn_29 (by decide) ?_
      obtain ⟨rfl, rfl⟩ := so_1 H
      exact x_iret dX12_isDrawn_30 rfl (by decide)
def f_X12_chance_19 (x0 : Nat) (h : aH) : Option (Int32 × aH) :=
  ko h x0 11 <|
  bd (f_X12_refuses x0 2 h) fun v1 h2 =>
  some (v1, h2)
set_option maxRecDepth 100000 in
set_option maxHeartbeats 4000000 in
theorem t_X12_chance_19 {Γ : gS} {d : Nat} (hd : 9 ≤ d) {x0 : Nat} {h : aH} {r : Int32} {h' : aH} (H : f_X12_chance_19 x0 h = some (r, h')) : Ex Γ gX12_chance d 19 [(0, .ref x0)] [] h (some (.int r)) h' := by
  unfold f_X12_chance_19 at H
  obtain ⟨d, rfl⟩ : ∃ e, d = e + 1 := ⟨d - 1, by omega⟩
  refine x_aload_n dX12_chance_19 rfl 0 rfl ?_
  refine x_iconst (v := 2) dX12_chance_20 (by decide) ?_
  obtain ⟨c4, H⟩ := ko_o H
  obtain ⟨v1, h2, hc3, H⟩ := bd_o H
  refine x_callVi (As := [.int 2]) (q := (RX12, TX12, 103)) dX12_chance_21 mi_X12_refuses lk_X12_345 im_X12_refuses se_X12_refuses rfl c4 rfl rfl (Nat.le_of_ble_eq_true rfl) (t_X12_refuses (by omega) hc3) ?_
  obtain ⟨rfl, rfl⟩ := so_1 H
  exact x_iret dX12_chance_24 rfl rfl
def f_X12_chance_48 (k33 : Nat → Int32 → Int32 → Int32 → aH → Option (Int32 × aH)) (x0 : Nat) (x1 : Int32) (x2 : Int32) (x3 : Int32) (h : aH) : Option (Int32 × aH) :=
  nm (x3 + 1) fun (v5 : Int32) =>
  k33 x0 x1 x2 v5 h
set_option maxRecDepth 100000 in
set_option maxHeartbeats 4000000 in
theorem t_X12_chance_48 {Γ : gS} {d : Nat} (hd : 9 ≤ d) {k33 : Nat → Int32 → Int32 → Int32 → aH → Option (Int32 × aH)} (hk33 : ∀ {x0 : Nat} {x1 : Int32} {x2 : Int32} {x3 : Int32} {h : aH} {r : Int32} {h' : aH}, k33 x0 x1 x2 x3 h = some (r, h') → Ex Γ gX12_chance d 33 [(0, .ref x0), (1, .int x1), (2, .int x2), (3, .int x3)] [] h (some (.int r)) h') {x0 : Nat} {x1 : Int32} {x2 : Int32} {x3 : Int32} {h : aH} {r : Int32} {h' : aH} (H : f_X12_chance_48 k33 x0 x1 x2 x3 h = some (r, h')) : Ex Γ gX12_chance d 48 [(0, .ref x0), (1, .int x1), (2, .int x2), (3, .int x3)] [] h (some (.int r)) h' := by
  unfold f_X12_chance_48 at H
  obtain ⟨d, rfl⟩ : ∃ e, d = e + 1 := ⟨d - 1, by omega⟩
  obtain ⟨v5, ev5, H⟩ := nm_o H
  refine x_iinc (v := v5) (lv' := [(3, .int v5), (0, .ref x0), (1, .int x1), (2, .int x2)]) dX12_chance_48 3 rfl (by decide) ev5 rfl ?_
  refine x_goto (tgt := 33) dX12_chance_51 (by decide) ?_
  refine Ex.sub [1, 2, 3, 0] rfl ?_
  exact hk33 H
def b_X12_chance_33 (k33 : Nat → Int32 → Int32 → Int32 → aH → Option (Int32 × aH)) (x0 : Nat) (x1 : Int32) (x2 : Int32) (x3 : Int32) (h : aH) : Option (Int32 × aH) :=
  if x1 ≤ x3 then
    some (x2, h)
  else
    ko h x0 11 <|
    bd (f_X12_isDrawn x0 h) fun v7 h8 =>
    if v7 = 0 then
      f_X12_chance_48 k33 x0 x1 x2 x3 h8
    else
      nm (x2 + 1) fun (v11 : Int32) =>
      f_X12_chance_48 k33 x0 x1 v11 x3 h8
set_option maxRecDepth 100000 in
set_option maxHeartbeats 4000000 in
theorem tb_X12_chance_33 {Γ : gS} {d : Nat} (hd : 9 ≤ d) {k33 : Nat → Int32 → Int32 → Int32 → aH → Option (Int32 × aH)} (hk33 : ∀ {x0 : Nat} {x1 : Int32} {x2 : Int32} {x3 : Int32} {h : aH} {r : Int32} {h' : aH}, k33 x0 x1 x2 x3 h = some (r, h') → Ex Γ gX12_chance d 33 [(0, .ref x0), (1, .int x1), (2, .int x2), (3, .int x3)] [] h (some (.int r)) h') {x0 : Nat} {x1 : Int32} {x2 : Int32} {x3 : Int32} {h : aH} {r : Int32} {h' : aH} (H : b_X12_chance_33 k33 x0 x1 x2 x3 h = some (r, h')) : Ex Γ gX12_chance d 33 [(0, .ref x0), (1, .int x1), (2, .int x2), (3, .int x3)] [] h (some (.int r)) h' := by
  unfold b_X12_chance_33 at H
  obtain ⟨d, rfl⟩ : ∃ e, d = e + 1 := ⟨d - 1, by omega⟩
  refine x_iload_n dX12_chance_33 rfl 3 rfl ?_
  refine x_iload_n dX12_chance_34 rfl 1 rfl ?_
  refine x_icmp_ge (tgt := 54) dX12_chance_35 (by decide) (fun c6 => ?_) (fun c6 => ?_)
  · replace H := ite_p H c6
    refine x_iload_n dX12_chance_54 rfl 2 rfl ?_
    obtain ⟨rfl, rfl⟩ := so_1 H
    exact x_iret dX12_chance_55 rfl rfl
  · replace H := ite_m H c6
    refine x_aload_n dX12_chance_38 rfl 0 rfl ?_
    obtain ⟨c12, H⟩ := ko_o H
    obtain ⟨v7, h8, hc9, H⟩ := bd_o H
    refine x_callVi (As := []) (q := (RX12, TX12, 103)) dX12_chance_39 mi_X12_isDrawn lk_X12_572 im_X12_isDrawn se_X12_isDrawn rfl c12 rfl rfl (Nat.le_of_ble_eq_true rfl) (t_X12_isDrawn (by omega) hc9) ?_
    refine x_if_eq (tgt := 48) dX12_chance_42 (by decide) (fun c10 => ?_) (fun c10 => ?_)
    · replace H := ite_p H c10
      exact t_X12_chance_48 hd hk33 H
    · replace H := ite_m H c10
      obtain ⟨v11, ev11, H⟩ := nm_o H
      refine x_iinc (v := v11) (lv' := [(2, .int v11), (0, .ref x0), (1, .int x1), (3, .int x3)]) dX12_chance_45 2 rfl (by decide) ev11 rfl ?_
      refine Ex.sub [1, 2, 0, 3] rfl ?_
      exact t_X12_chance_48 hd hk33 H
def f_X12_chance_33 : Nat → Nat → Int32 → Int32 → Int32 → aH → Option (Int32 × aH)
  | 0 => fun _ _ _ _ _ => none
  | n + 1 => b_X12_chance_33 (f_X12_chance_33 n)
set_option maxRecDepth 100000 in
set_option maxHeartbeats 4000000 in
theorem t_X12_chance_33 {Γ : gS} {d : Nat} (hd : 9 ≤ d) (n : Nat) : ∀ {x0 : Nat} {x1 : Int32} {x2 : Int32} {x3 : Int32} {h : aH} {r : Int32} {h' : aH}, f_X12_chance_33 n x0 x1 x2 x3 h = some (r, h') → Ex Γ gX12_chance d 33 [(0, .ref x0), (1, .int x1), (2, .int x2), (3, .int x3)] [] h (some (.int r)) h' := by
  induction n with
  | zero => intro x0 x1 x2 x3 h r h' H; cases H
  | succ n ih => intro x0 x1 x2 x3 h r h' H; exact tb_X12_chance_33 hd ih H
def f_X12_chance (x0 : Nat) (x1 : Int32) (h : aH) : Option (Int32 × aH) :=
  ko h x0 11 <|
  if (hI h x0 45) = 0 then
    f_X12_chance_19 x0 h
  else
    bd (f_X12_isIn x1.toInt64 1 40 h) fun v15 h16 =>
    if v15 = 0 then
      f_X12_chance_19 x0 h16
    else
      ko h16 x0 11 <|
      bd (f_X12_keeps x0 h16) fun _ h20 =>
      f_X12_chance_33 FU x0 x1 0 0 h20
set_option maxRecDepth 100000 in
set_option maxHeartbeats 4000000 in
theorem t_X12_chance {Γ : gS} {d : Nat} (hd : 9 ≤ d) {x0 : Nat} {x1 : Int32} {h : aH} {r : Int32} {h' : aH} (H : f_X12_chance x0 x1 h = some (r, h')) : Mx Γ gX12_chance d [.ref x0, .int x1] h (some (.int r)) h' := by
  refine Mx.of (by decide +kernel) (Nat.le_of_ble_eq_true rfl) ?_
  unfold f_X12_chance at H
  show Ex Γ gX12_chance d 0 [(0, .ref x0), (1, .int x1)] [] h (some (.int r)) h'
  obtain ⟨d, rfl⟩ : ∃ e, d = e + 1 := ⟨d - 1, by omega⟩
  refine x_aload_n dX12_chance_0 rfl 0 rfl ?_
  obtain ⟨c13, H⟩ := ko_o H
  refine x_getI fr_X12_352 dX12_chance_1 c13 rfl ?_
  refine x_if_eq (tgt := 19) dX12_chance_4 (by decide) (fun c14 => ?_) (fun c14 => ?_)
  · replace H := ite_p H c14
    refine Ex.sub [0] rfl ?_
    exact t_X12_chance_19 hd H
  · replace H := ite_m H c14
    refine x_iload_n dX12_chance_7 rfl 1 rfl ?_
    refine x_i2l dX12_chance_8 ?_
    refine x_lconst (v := 1) dX12_chance_9 (by decide) ?_
    refine x_ldc2 kc_X12_570 dX12_chance_10 ?_
    obtain ⟨v15, h16, hc17, H⟩ := bd_o H
    refine x_callSi (As := [.long x1.toInt64, .long 1, .long 40]) dX12_chance_13 mi_X12_isIn lk_X12_268 sm_X12_isIn rfl rfl (Nat.le_of_ble_eq_true rfl) (t_X12_isIn (by omega) hc17) ?_
    refine x_if_ne (tgt := 25) dX12_chance_16 (by decide) (fun c18 => ?_) (fun c18 => ?_)
    · replace H := ite_m H c18
      refine x_aload_n dX12_chance_25 rfl 0 rfl ?_
      obtain ⟨c22, H⟩ := ko_o H
      obtain ⟨v19, h20, hc21, H⟩ := bd_o H
      refine x_callVv (As := []) (q := (RX12, TX12, 103)) dX12_chance_26 mi_X12_keeps lk_X12_528 im_X12_keeps se_X12_keeps rfl c22 rfl rfl (Nat.le_of_ble_eq_true rfl) (t_X12_keeps (by omega) hc21) ?_
      refine x_iconst (v := 0) dX12_chance_29 (by decide) ?_
      refine x_istore_n (lv' := [(2, .int 0), (0, .ref x0), (1, .int x1)]) dX12_chance_30 rfl (by decide) rfl rfl ?_
      refine x_iconst (v := 0) dX12_chance_31 (by decide) ?_
      refine x_istore_n (lv' := [(3, .int 0), (2, .int 0), (0, .ref x0), (1, .int x1)]) dX12_chance_32 rfl (by decide) rfl rfl ?_
      refine Ex.sub [2, 3, 1, 0] rfl ?_
      exact t_X12_chance_33 hd FU H
    · replace H := ite_p H c18
      refine Ex.sub [0] rfl ?_
      exact t_X12_chance_19 hd H
def f_X12_qOf_75 (s0 : Int64) (h : aH) : Option (Int64 × aH) :=
  some (s0, h)
set_option maxRecDepth 100000 in
set_option maxHeartbeats 4000000 in
theorem t_X12_qOf_75 {Γ : gS} {d : Nat} (hd : 6 ≤ d) {s0 : Int64} {h : aH} {r : Int64} {h' : aH} (H : f_X12_qOf_75 s0 h = some (r, h')) : Ex Γ gX12_qOf d 75 [] [.long s0] h (some (.long r)) h' := by
  unfold f_X12_qOf_75 at H
  obtain ⟨d, rfl⟩ : ∃ e, d = e + 1 := ⟨d - 1, by omega⟩
  obtain ⟨rfl, rfl⟩ := so_1 H
  exact x_lret dX12_qOf_75 rfl
def f_X12_qOf_74 (h : aH) : Option (Int64 × aH) :=
  f_X12_qOf_75 0 h
set_option maxRecDepth 100000 in
set_option maxHeartbeats 4000000 in
theorem t_X12_qOf_74 {Γ : gS} {d : Nat} (hd : 6 ≤ d) {h : aH} {r : Int64} {h' : aH} (H : f_X12_qOf_74 h = some (r, h')) : Ex Γ gX12_qOf d 74 [] [] h (some (.long r)) h' := by
  unfold f_X12_qOf_74 at H
  obtain ⟨d, rfl⟩ : ∃ e, d = e + 1 := ⟨d - 1, by omega⟩
  refine x_lconst (v := 0) dX12_qOf_74 (by decide) ?_
  exact t_X12_qOf_75 hd H
def f_X12_qOf_42 (s0 : Int64) (h : aH) : Option (Int64 × aH) :=
  some (s0, h)
set_option maxRecDepth 100000 in
set_option maxHeartbeats 4000000 in
theorem t_X12_qOf_42 {Γ : gS} {d : Nat} (hd : 6 ≤ d) {s0 : Int64} {h : aH} {r : Int64} {h' : aH} (H : f_X12_qOf_42 s0 h = some (r, h')) : Ex Γ gX12_qOf d 42 [] [.long s0] h (some (.long r)) h' := by
  unfold f_X12_qOf_42 at H
  obtain ⟨d, rfl⟩ : ∃ e, d = e + 1 := ⟨d - 1, by omega⟩
  obtain ⟨rfl, rfl⟩ := so_1 H
  exact x_lret dX12_qOf_42 rfl
def f_X12_qOf (x0 : Nat) (x1 : Int32) (x2 : Int64) (x4 : Int32) (h : aH) : Option (Int64 × aH) :=
  if x1 = 0 then
    ko h x0 11 <|
    bd (f_X12_isPointer x0 x2 h) fun v2 h3 =>
    if v2 = 0 then
      f_X12_qOf_42 0 h3
    else
      ko h3 x0 11 <|
      bd (f_X12_baseOf x0 (8 * x2.toInt32) h3) fun v6 h7 =>
      f_X12_qOf_42 v6.toInt64 h7
  else
  bd (f_X12_isIn x2 (-4095) 4095 h) fun v11 h12 =>
  if v11 = 0 then
    f_X12_qOf_74 h12
  else
    ko h12 x0 11 <|
    bd (f_X12_doesFit x0 (8 * x4) x2.toInt32 h12) fun v15 h16 =>
    if v15 = 0 then
      f_X12_qOf_74 h16
    else
      f_X12_qOf_75 1 h16
set_option maxRecDepth 100000 in
set_option maxHeartbeats 4000000 in
theorem t_X12_qOf {Γ : gS} {d : Nat} (hd : 6 ≤ d) {x0 : Nat} {x1 : Int32} {x2 : Int64} {x4 : Int32} {h : aH} {r : Int64} {h' : aH} (H : f_X12_qOf x0 x1 x2 x4 h = some (r, h')) : Mx Γ gX12_qOf d [.ref x0, .int x1, .long x2, .int x4] h (some (.long r)) h' := by
  refine Mx.of (by decide +kernel) (Nat.le_of_ble_eq_true rfl) ?_
  unfold f_X12_qOf at H
  show Ex Γ gX12_qOf d 0 [(0, .ref x0), (1, .int x1), (2, .long x2), (4, .int x4)] [] h (some (.long r)) h'
  obtain ⟨d, rfl⟩ : ∃ e, d = e + 1 := ⟨d - 1, by omega⟩
  refine x_iload_n dX12_qOf_0 rfl 1 rfl ?_
  by_cases c1 : x1 = 0
  · replace H := ite_p H c1
    refine x_lookup (tgt := 20) (off := 19) dX12_qOf_1 (by decide) (by rw [c1]; rfl) (by decide) ?_
    refine x_aload_n dX12_qOf_20 rfl 0 rfl ?_
    refine x_lload_n dX12_qOf_21 rfl 2 rfl ?_
    obtain ⟨c10, H⟩ := ko_o H
    obtain ⟨v2, h3, hc4, H⟩ := bd_o H
    refine x_callVi (As := [.long x2]) (q := (RX12, TX12, 103)) dX12_qOf_22 mi_X12_isPointer lk_X12_418 im_X12_isPointer se_X12_isPointer rfl c10 rfl rfl (Nat.le_of_ble_eq_true rfl) (t_X12_isPointer (by omega) hc4) ?_
    refine x_if_eq (tgt := 41) dX12_qOf_25 (by decide) (fun c5 => ?_) (fun c5 => ?_)
    · replace H := ite_p H c5
      refine x_lconst (v := 0) dX12_qOf_41 (by decide) ?_
      refine Ex.sub [] rfl ?_
      exact t_X12_qOf_42 hd H
    · replace H := ite_m H c5
      refine x_aload_n dX12_qOf_28 rfl 0 rfl ?_
      refine x_bipush (v := 8) dX12_qOf_29 (by decide) ?_
      refine x_lload_n dX12_qOf_31 rfl 2 rfl ?_
      refine x_l2i dX12_qOf_32 ?_
      refine x_imul dX12_qOf_33 ?_
      obtain ⟨c9, H⟩ := ko_o H
      obtain ⟨v6, h7, hc8, H⟩ := bd_o H
      refine x_callVi (As := [.int (8 * x2.toInt32)]) (q := (RX12, TX12, 103)) dX12_qOf_34 mi_X12_baseOf lk_X12_412 im_X12_baseOf se_X12_baseOf rfl c9 rfl rfl (Nat.le_of_ble_eq_true rfl) (t_X12_baseOf (by omega) hc8) ?_
      refine x_i2l dX12_qOf_37 ?_
      refine x_goto (tgt := 42) dX12_qOf_38 (by decide) ?_
      refine Ex.sub [] rfl ?_
      exact t_X12_qOf_42 hd H
  replace H := ite_m H c1
  refine x_lookup (tgt := 43) (off := 42) dX12_qOf_1 (by decide) (by show Op.lookupswitch.offset [(0, 19)] _ _ = _; rw [lv_osw c1 (by decide)]; rfl) (by decide) ?_
  refine x_lload_n dX12_qOf_43 rfl 2 rfl ?_
  refine x_ldc2 kc_X12_494 dX12_qOf_44 ?_
  refine x_ldc2 kc_X12_496 dX12_qOf_47 ?_
  obtain ⟨v11, h12, hc13, H⟩ := bd_o H
  refine x_callSi (As := [.long x2, .long (-4095), .long 4095]) dX12_qOf_50 mi_X12_isIn lk_X12_268 sm_X12_isIn rfl rfl (Nat.le_of_ble_eq_true rfl) (t_X12_isIn (by omega) hc13) ?_
  refine x_if_eq (tgt := 74) dX12_qOf_53 (by decide) (fun c14 => ?_) (fun c14 => ?_)
  · replace H := ite_p H c14
    refine Ex.sub [] rfl ?_
    exact t_X12_qOf_74 hd H
  · replace H := ite_m H c14
    refine x_aload_n dX12_qOf_56 rfl 0 rfl ?_
    refine x_bipush (v := 8) dX12_qOf_57 (by decide) ?_
    refine x_iload dX12_qOf_59 3 rfl ?_
    refine x_imul dX12_qOf_61 ?_
    refine x_lload_n dX12_qOf_62 rfl 2 rfl ?_
    refine x_l2i dX12_qOf_63 ?_
    obtain ⟨c19, H⟩ := ko_o H
    obtain ⟨v15, h16, hc17, H⟩ := bd_o H
    refine x_callVi (As := [.int (8 * x4), .int x2.toInt32]) (q := (RX12, TX12, 103)) dX12_qOf_64 mi_X12_doesFit lk_X12_498 im_X12_doesFit se_X12_doesFit rfl c19 rfl rfl (Nat.le_of_ble_eq_true rfl) (t_X12_doesFit (by omega) hc17) ?_
    refine x_if_eq (tgt := 74) dX12_qOf_67 (by decide) (fun c18 => ?_) (fun c18 => ?_)
    · replace H := ite_p H c18
      refine Ex.sub [] rfl ?_
      exact t_X12_qOf_74 hd H
    · replace H := ite_m H c18
      refine x_lconst (v := 1) dX12_qOf_70 (by decide) ?_
      refine x_goto (tgt := 75) dX12_qOf_71 (by decide) ?_
      refine Ex.sub [] rfl ?_
      exact t_X12_qOf_75 hd H
def f_X12_qTold_162 (k7 : Nat → Int32 → Int32 → aH → Option (Int64 × aH)) (x0 : Nat) (x1 : Int32) (x2 : Int32) (h : aH) : Option (Int64 × aH) :=
  nm (x2 + 1) fun (v1 : Int32) =>
  k7 x0 x1 v1 h
set_option maxRecDepth 100000 in
set_option maxHeartbeats 4000000 in
theorem t_X12_qTold_162 {Γ : gS} {d : Nat} (hd : 7 ≤ d) {k7 : Nat → Int32 → Int32 → aH → Option (Int64 × aH)} (hk7 : ∀ {x0 : Nat} {x1 : Int32} {x2 : Int32} {h : aH} {r : Int64} {h' : aH}, k7 x0 x1 x2 h = some (r, h') → Ex Γ gX12_qTold d 7 [(0, .ref x0), (1, .int x1), (2, .int x2)] [] h (some (.long r)) h') {x0 : Nat} {x1 : Int32} {x2 : Int32} {h : aH} {r : Int64} {h' : aH} (H : f_X12_qTold_162 k7 x0 x1 x2 h = some (r, h')) : Ex Γ gX12_qTold d 162 [(0, .ref x0), (1, .int x1), (2, .int x2)] [] h (some (.long r)) h' := by
  unfold f_X12_qTold_162 at H
  obtain ⟨d, rfl⟩ : ∃ e, d = e + 1 := ⟨d - 1, by omega⟩
  obtain ⟨v1, ev1, H⟩ := nm_o H
  refine x_iinc (v := v1) (lv' := [(2, .int v1), (0, .ref x0), (1, .int x1)]) dX12_qTold_162 2 rfl (by decide) ev1 rfl ?_
  refine x_goto (tgt := 7) dX12_qTold_165 (by decide) ?_
  refine Ex.sub [1, 2, 0] rfl ?_
  exact hk7 H
def b_X12_qTold_7 (k7 : Nat → Int32 → Int32 → aH → Option (Int64 × aH)) (x0 : Nat) (x1 : Int32) (x2 : Int32) (h : aH) : Option (Int64 × aH) :=
  ko h x0 11 <|
  if (hI h x0 92) ≤ x2 then
    kr (hR h x0 97) fun a4 =>
    ka h a4 .long fun n7 =>
    chk (inb 0 n7 = true) <|
    some (hL h a4 (0 : Int32).toNatClampNeg, h)
  else
    kr (hR h x0 91) fun a9 =>
    ka h a9 .int fun n12 =>
    chk (inb x2 n12 = true) <|
    nm (hI h a9 x2.toNatClampNeg) fun (v14 : Int32) =>
    if v14 < 1000 then
      if v14 < 60 then
        if v14 < 40 then
          if v14 = 13 then
            bd (f_X12_qPuts x0 1 h) fun _ h29 =>
            f_X12_qTold_162 k7 x0 x1 x2 h29
          else
            if v14 = 12 then
              kr (hR h x0 97) fun a23 =>
              ka h a23 .long fun n26 =>
              chk (inb ((hI h x0 98) - 1) n26 = true) <|
              f_X12_qTold_162 k7 x0 x1 x2 (sL h a23 ((hI h x0 98) - 1 : Int32).toNatClampNeg (1 - (hL h a23 ((hI h x0 98) - 1 : Int32).toNatClampNeg)))
            else
              bd (f_X12_qJoins x0 v14 h) fun _ h21 =>
              f_X12_qTold_162 k7 x0 x1 x2 h21
        else
          bd (f_X12_qPartOf x0 (v14 - 40) x1 h) fun v31 h32 =>
          bd (f_X12_qClip v31 h32) fun v34 h35 =>
          ko h35 x0 11 <|
          bd (f_X12_qPuts x0 v34 h35) fun _ h38 =>
          f_X12_qTold_162 k7 x0 x1 x2 h38
      else
        kr (hR h x0 97) fun a41 =>
        ka h a41 .long fun n44 =>
        chk (inb ((hI h x0 98) - 1) n44 = true) <|
        bd (f_X12_qOf x0 (v14 - 60) (hL h a41 ((hI h x0 98) - 1 : Int32).toNatClampNeg) x1 h) fun v46 h47 =>
        bd (f_X12_qClip v46 h47) fun v49 h50 =>
        ka h50 a41 .long fun n53 =>
        chk (inb ((hI h x0 98) - 1) n53 = true) <|
        f_X12_qTold_162 k7 x0 x1 x2 (sL h50 a41 ((hI h x0 98) - 1 : Int32).toNatClampNeg v49)
    else
      bd (f_X12_qPuts x0 ((v14 - 1000 : Int32).toInt64) h) fun _ h56 =>
      f_X12_qTold_162 k7 x0 x1 x2 h56
set_option maxRecDepth 100000 in
set_option maxHeartbeats 4000000 in
theorem tb_X12_qTold_7 {Γ : gS} {d : Nat} (hd : 7 ≤ d) {k7 : Nat → Int32 → Int32 → aH → Option (Int64 × aH)} (hk7 : ∀ {x0 : Nat} {x1 : Int32} {x2 : Int32} {h : aH} {r : Int64} {h' : aH}, k7 x0 x1 x2 h = some (r, h') → Ex Γ gX12_qTold d 7 [(0, .ref x0), (1, .int x1), (2, .int x2)] [] h (some (.long r)) h') {x0 : Nat} {x1 : Int32} {x2 : Int32} {h : aH} {r : Int64} {h' : aH} (H : b_X12_qTold_7 k7 x0 x1 x2 h = some (r, h')) : Ex Γ gX12_qTold d 7 [(0, .ref x0), (1, .int x1), (2, .int x2)] [] h (some (.long r)) h' := by
  unfold b_X12_qTold_7 at H
  obtain ⟨d, rfl⟩ : ∃ e, d = e + 1 := ⟨d - 1, by omega⟩
  refine x_iload_n dX12_qTold_7 rfl 2 rfl ?_
  refine x_aload_n dX12_qTold_8 rfl 0 rfl ?_
  obtain ⟨c2, H⟩ := ko_o H
  refine x_getI fr_X12_306 dX12_qTold_9 c2 rfl ?_
  refine x_icmp_ge (tgt := 168) dX12_qTold_12 (by decide) (fun c3 => ?_) (fun c3 => ?_)
  · replace H := ite_p H c3
    refine x_aload_n dX12_qTold_168 rfl 0 rfl ?_
    obtain ⟨a4, c5, H⟩ := kr_o H
    refine x_getR fr_X12_216 dX12_qTold_169 c2 rfl c5 ?_
    refine x_iconst (v := 0) dX12_qTold_172 (by decide) ?_
    obtain ⟨n7, c6, H⟩ := ka_o H
    obtain ⟨c8, H⟩ := chk_o H
    refine x_lald dX12_qTold_173 c6 (inb_in.mp c8) ?_
    obtain ⟨rfl, rfl⟩ := so_1 H
    exact x_lret dX12_qTold_174 rfl
  · replace H := ite_m H c3
    refine x_aload_n dX12_qTold_15 rfl 0 rfl ?_
    obtain ⟨a9, c10, H⟩ := kr_o H
    refine x_getR fr_X12_210 dX12_qTold_16 c2 rfl c10 ?_
    refine x_iload_n dX12_qTold_19 rfl 2 rfl ?_
    obtain ⟨n12, c11, H⟩ := ka_o H
    obtain ⟨c13, H⟩ := chk_o H
    refine x_iald dX12_qTold_20 c11 (inb_in.mp c13) ?_
    obtain ⟨v14, ev14, H⟩ := nm_o H
    refine x_istore_n (lv' := [(3, .int v14), (0, .ref x0), (1, .int x1), (2, .int x2)]) dX12_qTold_21 rfl (by decide) ev14 rfl ?_
    refine x_iload_n dX12_qTold_22 rfl 0 rfl ?_
    refine x_sipush (v := 1000) dX12_qTold_23 (by decide) ?_
    refine x_icmp_lt (tgt := 42) dX12_qTold_26 (by decide) (fun c15 => ?_) (fun c15 => ?_)
    · replace H := ite_p H c15
      refine x_iload_n dX12_qTold_42 rfl 0 rfl ?_
      refine x_bipush (v := 60) dX12_qTold_43 (by decide) ?_
      refine x_icmp_lt (tgt := 85) dX12_qTold_45 (by decide) (fun c16 => ?_) (fun c16 => ?_)
      · replace H := ite_p H c16
        refine x_iload_n dX12_qTold_85 rfl 0 rfl ?_
        refine x_bipush (v := 40) dX12_qTold_86 (by decide) ?_
        refine x_icmp_lt (tgt := 110) dX12_qTold_88 (by decide) (fun c17 => ?_) (fun c17 => ?_)
        · replace H := ite_p H c17
          refine x_iload_n dX12_qTold_110 rfl 0 rfl ?_
          refine x_bipush (v := 13) dX12_qTold_111 (by decide) ?_
          refine x_icmp_ne (tgt := 124) dX12_qTold_113 (by decide) (fun c18 => ?_) (fun c18 => ?_)
          · replace H := ite_m H c18
            refine x_iload_n dX12_qTold_124 rfl 0 rfl ?_
            refine x_bipush (v := 12) dX12_qTold_125 (by decide) ?_
            refine x_icmp_ne (tgt := 157) dX12_qTold_127 (by decide) (fun c19 => ?_) (fun c19 => ?_)
            · replace H := ite_m H c19
              refine x_aload_n dX12_qTold_157 rfl 1 rfl ?_
              refine x_iload_n dX12_qTold_158 rfl 0 rfl ?_
              obtain ⟨v20, h21, hc22, H⟩ := bd_o H
              refine x_callVv (As := [.int v14]) (q := (RX12, TX12, 103)) dX12_qTold_159 mi_X12_qJoins lk_X12_384 im_X12_qJoins se_X12_qJoins rfl c2 rfl rfl (Nat.le_of_ble_eq_true rfl) (t_X12_qJoins (by omega) hc22) ?_
              refine Ex.sub [1, 2, 3] rfl ?_
              exact t_X12_qTold_162 hd hk7 H
            · replace H := ite_p H c19
              refine x_aload_n dX12_qTold_130 rfl 1 rfl ?_
              obtain ⟨a23, c24, H⟩ := kr_o H
              refine x_getR fr_X12_216 dX12_qTold_131 c2 rfl c24 ?_
              refine x_aload_n dX12_qTold_134 rfl 1 rfl ?_
              refine x_getI fr_X12_373 dX12_qTold_135 c2 rfl ?_
              refine x_iconst (v := 1) dX12_qTold_138 (by decide) ?_
              refine x_isub dX12_qTold_139 ?_
              refine x_lconst (v := 1) dX12_qTold_140 (by decide) ?_
              refine x_aload_n dX12_qTold_141 rfl 1 rfl ?_
              refine x_getR fr_X12_216 dX12_qTold_142 c2 rfl c24 ?_
              refine x_aload_n dX12_qTold_145 rfl 1 rfl ?_
              refine x_getI fr_X12_373 dX12_qTold_146 c2 rfl ?_
              refine x_iconst (v := 1) dX12_qTold_149 (by decide) ?_
              refine x_isub dX12_qTold_150 ?_
              obtain ⟨n26, c25, H⟩ := ka_o H
              obtain ⟨c27, H⟩ := chk_o H
              refine x_lald dX12_qTold_151 c25 (inb_in.mp c27) ?_
              refine x_lsub dX12_qTold_152 ?_
              refine x_last dX12_qTold_153 c25 (inb_in.mp c27) ?_
              refine x_goto (tgt := 162) dX12_qTold_154 (by decide) ?_
              refine Ex.sub [1, 2, 3] rfl ?_
              exact t_X12_qTold_162 hd hk7 H
          · replace H := ite_p H c18
            refine x_aload_n dX12_qTold_116 rfl 1 rfl ?_
            refine x_lconst (v := 1) dX12_qTold_117 (by decide) ?_
            obtain ⟨v28, h29, hc30, H⟩ := bd_o H
            refine x_callVv (As := [.long 1]) (q := (RX12, TX12, 103)) dX12_qTold_118 mi_X12_qPuts lk_X12_376 im_X12_qPuts se_X12_qPuts rfl c2 rfl rfl (Nat.le_of_ble_eq_true rfl) (t_X12_qPuts (by omega) hc30) ?_
            refine x_goto (tgt := 162) dX12_qTold_121 (by decide) ?_
            refine Ex.sub [1, 2, 3] rfl ?_
            exact t_X12_qTold_162 hd hk7 H
        · replace H := ite_m H c17
          refine x_aload_n dX12_qTold_91 rfl 1 rfl ?_
          refine x_aload_n dX12_qTold_92 rfl 1 rfl ?_
          refine x_iload_n dX12_qTold_93 rfl 0 rfl ?_
          refine x_bipush (v := 40) dX12_qTold_94 (by decide) ?_
          refine x_isub dX12_qTold_96 ?_
          refine x_iload_n dX12_qTold_97 rfl 2 rfl ?_
          obtain ⟨v31, h32, hc33, H⟩ := bd_o H
          refine x_callVl (As := [.int (v14 - 40), .int x1]) (q := (RX12, TX12, 103)) dX12_qTold_98 mi_X12_qPartOf lk_X12_380 im_X12_qPartOf se_X12_qPartOf rfl c2 rfl rfl (Nat.le_of_ble_eq_true rfl) (t_X12_qPartOf (by omega) hc33) ?_
          obtain ⟨v34, h35, hc36, H⟩ := bd_o H
          refine x_callSl (As := [.long v31]) dX12_qTold_101 mi_X12_qClip lk_X12_633 sm_X12_qClip rfl rfl (Nat.le_of_ble_eq_true rfl) (t_X12_qClip (by omega) hc36) ?_
          obtain ⟨c40, H⟩ := ko_o H
          obtain ⟨v37, h38, hc39, H⟩ := bd_o H
          refine x_callVv (As := [.long v34]) (q := (RX12, TX12, 103)) dX12_qTold_104 mi_X12_qPuts lk_X12_376 im_X12_qPuts se_X12_qPuts rfl c40 rfl rfl (Nat.le_of_ble_eq_true rfl) (t_X12_qPuts (by omega) hc39) ?_
          refine x_goto (tgt := 162) dX12_qTold_107 (by decide) ?_
          refine Ex.sub [1, 2, 3] rfl ?_
          exact t_X12_qTold_162 hd hk7 H
      · replace H := ite_m H c16
        refine x_aload_n dX12_qTold_48 rfl 1 rfl ?_
        obtain ⟨a41, c42, H⟩ := kr_o H
        refine x_getR fr_X12_216 dX12_qTold_49 c2 rfl c42 ?_
        refine x_aload_n dX12_qTold_52 rfl 1 rfl ?_
        refine x_getI fr_X12_373 dX12_qTold_53 c2 rfl ?_
        refine x_iconst (v := 1) dX12_qTold_56 (by decide) ?_
        refine x_isub dX12_qTold_57 ?_
        refine x_aload_n dX12_qTold_58 rfl 1 rfl ?_
        refine x_iload_n dX12_qTold_59 rfl 0 rfl ?_
        refine x_bipush (v := 60) dX12_qTold_60 (by decide) ?_
        refine x_isub dX12_qTold_62 ?_
        refine x_aload_n dX12_qTold_63 rfl 1 rfl ?_
        refine x_getR fr_X12_216 dX12_qTold_64 c2 rfl c42 ?_
        refine x_aload_n dX12_qTold_67 rfl 1 rfl ?_
        refine x_getI fr_X12_373 dX12_qTold_68 c2 rfl ?_
        refine x_iconst (v := 1) dX12_qTold_71 (by decide) ?_
        refine x_isub dX12_qTold_72 ?_
        obtain ⟨n44, c43, H⟩ := ka_o H
        obtain ⟨c45, H⟩ := chk_o H
        refine x_lald dX12_qTold_73 c43 (inb_in.mp c45) ?_
        refine x_iload_n dX12_qTold_74 rfl 2 rfl ?_
        obtain ⟨v46, h47, hc48, H⟩ := bd_o H
        refine x_callVl (As := [.int (v14 - 60), .long (hL h a41 ((hI h x0 98) - 1 : Int32).toNatClampNeg), .int x1]) (q := (RX12, TX12, 103)) dX12_qTold_75 mi_X12_qOf lk_X12_641 im_X12_qOf se_X12_qOf rfl c2 rfl rfl (Nat.le_of_ble_eq_true rfl) (t_X12_qOf (by omega) hc48) ?_
        obtain ⟨v49, h50, hc51, H⟩ := bd_o H
        refine x_callSl (As := [.long v46]) dX12_qTold_78 mi_X12_qClip lk_X12_633 sm_X12_qClip rfl rfl (Nat.le_of_ble_eq_true rfl) (t_X12_qClip (by omega) hc51) ?_
        obtain ⟨n53, c52, H⟩ := ka_o H
        obtain ⟨c54, H⟩ := chk_o H
        refine x_last dX12_qTold_81 c52 (inb_in.mp c54) ?_
        refine x_goto (tgt := 162) dX12_qTold_82 (by decide) ?_
        refine Ex.sub [1, 2, 3] rfl ?_
        exact t_X12_qTold_162 hd hk7 H
    · replace H := ite_m H c15
      refine x_aload_n dX12_qTold_29 rfl 1 rfl ?_
      refine x_iload_n dX12_qTold_30 rfl 0 rfl ?_
      refine x_sipush (v := 1000) dX12_qTold_31 (by decide) ?_
      refine x_isub dX12_qTold_34 ?_
      refine x_i2l dX12_qTold_35 ?_
      obtain ⟨v55, h56, hc57, H⟩ := bd_o H
      refine x_callVv (As := [.long ((v14 - 1000 : Int32).toInt64)]) (q := (RX12, TX12, 103)) dX12_qTold_36 mi_X12_qPuts lk_X12_376 im_X12_qPuts se_X12_qPuts rfl c2 rfl rfl (Nat.le_of_ble_eq_true rfl) (t_X12_qPuts (by omega) hc57) ?_
      refine x_goto (tgt := 162) dX12_qTold_39 (by decide) ?_
      refine Ex.sub [1, 2, 3] rfl ?_
      exact t_X12_qTold_162 hd hk7 H
def f_X12_qTold_7 : Nat → Nat → Int32 → Int32 → aH → Option (Int64 × aH)
  | 0 => fun _ _ _ _ => none
  | n + 1 => b_X12_qTold_7 (f_X12_qTold_7 n)
set_option maxRecDepth 100000 in
set_option maxHeartbeats 4000000 in
theorem t_X12_qTold_7 {Γ : gS} {d : Nat} (hd : 7 ≤ d) (n : Nat) : ∀ {x0 : Nat} {x1 : Int32} {x2 : Int32} {h : aH} {r : Int64} {h' : aH}, f_X12_qTold_7 n x0 x1 x2 h = some (r, h') → Ex Γ gX12_qTold d 7 [(0, .ref x0), (1, .int x1), (2, .int x2)] [] h (some (.long r)) h' := by
  induction n with
  | zero => intro x0 x1 x2 h r h' H; cases H
  | succ n ih => intro x0 x1 x2 h r h' H; exact tb_X12_qTold_7 hd ih H
def f_X12_qTold (x0 : Nat) (x1 : Int32) (h : aH) : Option (Int64 × aH) :=
  ko h x0 11 <|
  f_X12_qTold_7 FU x0 x1 0 (sI h x0 98 0)
set_option maxRecDepth 100000 in
set_option maxHeartbeats 4000000 in
theorem t_X12_qTold {Γ : gS} {d : Nat} (hd : 7 ≤ d) {x0 : Nat} {x1 : Int32} {h : aH} {r : Int64} {h' : aH} (H : f_X12_qTold x0 x1 h = some (r, h')) : Mx Γ gX12_qTold d [.ref x0, .int x1] h (some (.long r)) h' := by
  refine Mx.of (by decide +kernel) (Nat.le_of_ble_eq_true rfl) ?_
  unfold f_X12_qTold at H
  show Ex Γ gX12_qTold d 0 [(0, .ref x0), (1, .int x1)] [] h (some (.long r)) h'
  obtain ⟨d, rfl⟩ : ∃ e, d = e + 1 := ⟨d - 1, by omega⟩
  refine x_aload_n dX12_qTold_0 rfl 0 rfl ?_
  refine x_iconst (v := 0) dX12_qTold_1 (by decide) ?_
  obtain ⟨c58, H⟩ := ko_o H
  refine x_putI fl_X12_373 dX12_qTold_2 c58 (fun e => by cases e) rfl ?_
  refine x_iconst (v := 0) dX12_qTold_5 (by decide) ?_
  refine x_istore_n (lv' := [(2, .int 0), (0, .ref x0), (1, .int x1)]) dX12_qTold_6 rfl (by decide) rfl rfl ?_
  refine Ex.sub [1, 2, 0] rfl ?_
  exact t_X12_qTold_7 hd FU H
def f_X12_qKind_90 (x1 : Int32) (h : aH) : Option (Int32 × aH) :=
  some (x1, h)
set_option maxRecDepth 100000 in
set_option maxHeartbeats 4000000 in
theorem t_X12_qKind_90 {Γ : gS} {d : Nat} (hd : 4 ≤ d) {x1 : Int32} {h : aH} {r : Int32} {h' : aH} (H : f_X12_qKind_90 x1 h = some (r, h')) : Ex Γ gX12_qKind d 90 [(1, .int x1)] [] h (some (.int r)) h' := by
  unfold f_X12_qKind_90 at H
  obtain ⟨d, rfl⟩ : ∃ e, d = e + 1 := ⟨d - 1, by omega⟩
  refine x_iload_n dX12_qKind_90 rfl 0 rfl ?_
  obtain ⟨rfl, rfl⟩ := so_1 H
  exact x_iret dX12_qKind_91 rfl rfl
def f_X12_qKind_76 (x0 : Nat) (s0 : Int32) (h : aH) : Option (Int32 × aH) :=
  if s0 = 5 then
    ko h x0 11 <|
    kr (hR h x0 71) fun a3 =>
    bd (f_X12_asks x0 a3 h) fun _ h6 =>
    f_X12_qKind_90 s0 h6
  else
    f_X12_qKind_90 s0 h
set_option maxRecDepth 100000 in
set_option maxHeartbeats 4000000 in
theorem t_X12_qKind_76 {Γ : gS} {d : Nat} (hd : 4 ≤ d) {x0 : Nat} {s0 : Int32} {h : aH} {r : Int32} {h' : aH} (H : f_X12_qKind_76 x0 s0 h = some (r, h')) : Ex Γ gX12_qKind d 76 [(0, .ref x0)] [.int s0] h (some (.int r)) h' := by
  unfold f_X12_qKind_76 at H
  obtain ⟨d, rfl⟩ : ∃ e, d = e + 1 := ⟨d - 1, by omega⟩
  refine x_istore_n (lv' := [(1, .int s0), (0, .ref x0)]) dX12_qKind_76 rfl (by decide) rfl rfl ?_
  refine x_iload_n dX12_qKind_77 rfl 0 rfl ?_
  refine x_iconst (v := 5) dX12_qKind_78 (by decide) ?_
  refine x_icmp_ne (tgt := 90) dX12_qKind_79 (by decide) (fun c1 => ?_) (fun c1 => ?_)
  · replace H := ite_m H c1
    refine Ex.sub [0] rfl ?_
    exact t_X12_qKind_90 hd H
  · replace H := ite_p H c1
    refine x_aload_n dX12_qKind_82 rfl 1 rfl ?_
    refine x_aload_n dX12_qKind_83 rfl 1 rfl ?_
    obtain ⟨c2, H⟩ := ko_o H
    obtain ⟨a3, c4, H⟩ := kr_o H
    refine x_getR fr_X12_150 dX12_qKind_84 c2 rfl c4 ?_
    obtain ⟨v5, h6, hc7, H⟩ := bd_o H
    refine x_callVv (As := [.ref a3]) (q := (RX12, TX12, 103)) dX12_qKind_87 mi_X12_asks lk_X12_290 im_X12_asks se_X12_asks rfl c2 rfl rfl (Nat.le_of_ble_eq_true rfl) (t_X12_asks (by omega) hc7) ?_
    refine Ex.sub [0] rfl ?_
    exact t_X12_qKind_90 hd H
def f_X12_qKind (x0 : Nat) (h : aH) : Option (Int32 × aH) :=
  ko h x0 11 <|
  kr (hR h x0 66) fun a9 =>
  bd (f_X12_takes x0 a9 h) fun v11 h12 =>
  if v11 = 0 then
    ko h12 x0 11 <|
    kr (hR h12 x0 67) fun a16 =>
    bd (f_X12_takes x0 a16 h12) fun v18 h19 =>
    if v18 = 0 then
      ko h19 x0 11 <|
      kr (hR h19 x0 68) fun a23 =>
      bd (f_X12_takes x0 a23 h19) fun v25 h26 =>
      if v25 = 0 then
        ko h26 x0 11 <|
        kr (hR h26 x0 69) fun a30 =>
        bd (f_X12_takes x0 a30 h26) fun v32 h33 =>
        if v32 = 0 then
          ko h33 x0 11 <|
          kr (hR h33 x0 70) fun a37 =>
          bd (f_X12_takes x0 a37 h33) fun v39 h40 =>
          if v39 = 0 then
            f_X12_qKind_76 x0 5 h40
          else
            f_X12_qKind_76 x0 4 h40
        else
          f_X12_qKind_76 x0 3 h33
      else
        f_X12_qKind_76 x0 2 h26
    else
      f_X12_qKind_76 x0 1 h19
  else
    f_X12_qKind_76 x0 0 h12
set_option maxRecDepth 100000 in
set_option maxHeartbeats 4000000 in
theorem t_X12_qKind {Γ : gS} {d : Nat} (hd : 4 ≤ d) {x0 : Nat} {h : aH} {r : Int32} {h' : aH} (H : f_X12_qKind x0 h = some (r, h')) : Mx Γ gX12_qKind d [.ref x0] h (some (.int r)) h' := by
  refine Mx.of (by decide +kernel) (Nat.le_of_ble_eq_true rfl) ?_
  unfold f_X12_qKind at H
  show Ex Γ gX12_qKind d 0 [(0, .ref x0)] [] h (some (.int r)) h'
  obtain ⟨d, rfl⟩ : ∃ e, d = e + 1 := ⟨d - 1, by omega⟩
  refine x_aload_n dX12_qKind_0 rfl 0 rfl ?_
  refine x_aload_n dX12_qKind_1 rfl 0 rfl ?_
  obtain ⟨c8, H⟩ := ko_o H
  obtain ⟨a9, c10, H⟩ := kr_o H
  refine x_getR fr_X12_135 dX12_qKind_2 c8 rfl c10 ?_
  obtain ⟨v11, h12, hc13, H⟩ := bd_o H
  refine x_callVi (As := [.ref a9]) (q := (RX12, TX12, 103)) dX12_qKind_5 mi_X12_takes lk_X12_252 im_X12_takes se_X12_takes rfl c8 rfl rfl (Nat.le_of_ble_eq_true rfl) (t_X12_takes (by omega) hc13) ?_
  refine x_if_eq (tgt := 15) dX12_qKind_8 (by decide) (fun c14 => ?_) (fun c14 => ?_)
  · replace H := ite_p H c14
    refine x_aload_n dX12_qKind_15 rfl 0 rfl ?_
    refine x_aload_n dX12_qKind_16 rfl 0 rfl ?_
    obtain ⟨c15, H⟩ := ko_o H
    obtain ⟨a16, c17, H⟩ := kr_o H
    refine x_getR fr_X12_138 dX12_qKind_17 c15 rfl c17 ?_
    obtain ⟨v18, h19, hc20, H⟩ := bd_o H
    refine x_callVi (As := [.ref a16]) (q := (RX12, TX12, 103)) dX12_qKind_20 mi_X12_takes lk_X12_252 im_X12_takes se_X12_takes rfl c15 rfl rfl (Nat.le_of_ble_eq_true rfl) (t_X12_takes (by omega) hc20) ?_
    refine x_if_eq (tgt := 30) dX12_qKind_23 (by decide) (fun c21 => ?_) (fun c21 => ?_)
    · replace H := ite_p H c21
      refine x_aload_n dX12_qKind_30 rfl 0 rfl ?_
      refine x_aload_n dX12_qKind_31 rfl 0 rfl ?_
      obtain ⟨c22, H⟩ := ko_o H
      obtain ⟨a23, c24, H⟩ := kr_o H
      refine x_getR fr_X12_141 dX12_qKind_32 c22 rfl c24 ?_
      obtain ⟨v25, h26, hc27, H⟩ := bd_o H
      refine x_callVi (As := [.ref a23]) (q := (RX12, TX12, 103)) dX12_qKind_35 mi_X12_takes lk_X12_252 im_X12_takes se_X12_takes rfl c22 rfl rfl (Nat.le_of_ble_eq_true rfl) (t_X12_takes (by omega) hc27) ?_
      refine x_if_eq (tgt := 45) dX12_qKind_38 (by decide) (fun c28 => ?_) (fun c28 => ?_)
      · replace H := ite_p H c28
        refine x_aload_n dX12_qKind_45 rfl 0 rfl ?_
        refine x_aload_n dX12_qKind_46 rfl 0 rfl ?_
        obtain ⟨c29, H⟩ := ko_o H
        obtain ⟨a30, c31, H⟩ := kr_o H
        refine x_getR fr_X12_144 dX12_qKind_47 c29 rfl c31 ?_
        obtain ⟨v32, h33, hc34, H⟩ := bd_o H
        refine x_callVi (As := [.ref a30]) (q := (RX12, TX12, 103)) dX12_qKind_50 mi_X12_takes lk_X12_252 im_X12_takes se_X12_takes rfl c29 rfl rfl (Nat.le_of_ble_eq_true rfl) (t_X12_takes (by omega) hc34) ?_
        refine x_if_eq (tgt := 60) dX12_qKind_53 (by decide) (fun c35 => ?_) (fun c35 => ?_)
        · replace H := ite_p H c35
          refine x_aload_n dX12_qKind_60 rfl 0 rfl ?_
          refine x_aload_n dX12_qKind_61 rfl 0 rfl ?_
          obtain ⟨c36, H⟩ := ko_o H
          obtain ⟨a37, c38, H⟩ := kr_o H
          refine x_getR fr_X12_147 dX12_qKind_62 c36 rfl c38 ?_
          obtain ⟨v39, h40, hc41, H⟩ := bd_o H
          refine x_callVi (As := [.ref a37]) (q := (RX12, TX12, 103)) dX12_qKind_65 mi_X12_takes lk_X12_252 im_X12_takes se_X12_takes rfl c36 rfl rfl (Nat.le_of_ble_eq_true rfl) (t_X12_takes (by omega) hc41) ?_
          refine x_if_eq (tgt := 75) dX12_qKind_68 (by decide) (fun c42 => ?_) (fun c42 => ?_)
          · replace H := ite_p H c42
            refine x_iconst (v := 5) dX12_qKind_75 (by decide) ?_
            exact t_X12_qKind_76 hd H
          · replace H := ite_m H c42
            refine x_iconst (v := 4) dX12_qKind_71 (by decide) ?_
            refine x_goto (tgt := 76) dX12_qKind_72 (by decide) ?_
            exact t_X12_qKind_76 hd H
        · replace H := ite_m H c35
          refine x_iconst (v := 3) dX12_qKind_56 (by decide) ?_
          refine x_goto (tgt := 76) dX12_qKind_57 (by decide) ?_
          exact t_X12_qKind_76 hd H
      · replace H := ite_m H c28
        refine x_iconst (v := 2) dX12_qKind_41 (by decide) ?_
        refine x_goto (tgt := 76) dX12_qKind_42 (by decide) ?_
        exact t_X12_qKind_76 hd H
    · replace H := ite_m H c21
      refine x_iconst (v := 1) dX12_qKind_26 (by decide) ?_
      refine x_goto (tgt := 76) dX12_qKind_27 (by decide) ?_
      exact t_X12_qKind_76 hd H
  · replace H := ite_m H c14
    refine x_iconst (v := 0) dX12_qKind_11 (by decide) ?_
    refine x_goto (tgt := 76) dX12_qKind_12 (by decide) ?_
    exact t_X12_qKind_76 hd H
def f_X12_qTakes_133 (x0 : Nat) (h : aH) : Option (Unit × aH) :=
  ko h x0 11 <|
  some ((), sI h x0 100 0)
set_option maxRecDepth 100000 in
set_option maxHeartbeats 4000000 in
theorem t_X12_qTakes_133 {Γ : gS} {d : Nat} (hd : 0 ≤ d) {x0 : Nat} {h : aH} {r : Unit} {h' : aH} (H : f_X12_qTakes_133 x0 h = some (r, h')) : Ex Γ gX12_qTakes d 133 [(0, .ref x0)] [] h none h' := by
  unfold f_X12_qTakes_133 at H
  refine x_aload_n dX12_qTakes_133 rfl 0 rfl ?_
  refine x_iconst (v := 0) dX12_qTakes_134 (by decide) ?_
  obtain ⟨c1, H⟩ := ko_o H
  refine x_putZ fl_X12_650 dX12_qTakes_135 c1 (fun e => by cases e) rfl (by decide) ?_
  obtain ⟨-, rfl⟩ := so_1 H
  exact x_vret dX12_qTakes_138 rfl
def f_X12_qTakes_128 (x0 : Nat) (x2 : Int64) (h : aH) : Option (Unit × aH) :=
  ko h x0 11 <|
  f_X12_qTakes_133 x0 (sL h x0 99 x2)
set_option maxRecDepth 100000 in
set_option maxHeartbeats 4000000 in
theorem t_X12_qTakes_128 {Γ : gS} {d : Nat} (hd : 0 ≤ d) {x0 : Nat} {x2 : Int64} {h : aH} {r : Unit} {h' : aH} (H : f_X12_qTakes_128 x0 x2 h = some (r, h')) : Ex Γ gX12_qTakes d 128 [(0, .ref x0), (2, .long x2)] [] h none h' := by
  unfold f_X12_qTakes_128 at H
  refine x_aload_n dX12_qTakes_128 rfl 0 rfl ?_
  refine x_lload_n dX12_qTakes_129 rfl 1 rfl ?_
  obtain ⟨c2, H⟩ := ko_o H
  refine x_putL fl_X12_645 dX12_qTakes_130 c2 (fun e => by cases e) rfl ?_
  refine Ex.sub [0] rfl ?_
  exact t_X12_qTakes_133 hd H
def f_X12_qTakes_90 (x0 : Nat) (x1 : Int32) (x2 : Int64) (h : aH) : Option (Unit × aH) :=
  if x1 ≤ 3 then
    f_X12_qTakes_133 x0 h
  else
    ko h x0 11 <|
    if (hI h x0 100) = 0 then
      if x1 = 4 then
        if (lg_cmp x2 (hL h x0 99)) ≤ 0 then
          f_X12_qTakes_133 x0 h
        else
          f_X12_qTakes_128 x0 x2 h
      else
        if 0 ≤ (lg_cmp x2 (hL h x0 99)) then
          f_X12_qTakes_133 x0 h
        else
          f_X12_qTakes_128 x0 x2 h
    else
      f_X12_qTakes_128 x0 x2 h
set_option maxRecDepth 100000 in
set_option maxHeartbeats 4000000 in
theorem t_X12_qTakes_90 {Γ : gS} {d : Nat} (hd : 0 ≤ d) {x0 : Nat} {x1 : Int32} {x2 : Int64} {h : aH} {r : Unit} {h' : aH} (H : f_X12_qTakes_90 x0 x1 x2 h = some (r, h')) : Ex Γ gX12_qTakes d 90 [(0, .ref x0), (1, .int x1), (2, .long x2)] [] h none h' := by
  unfold f_X12_qTakes_90 at H
  refine x_iload_n dX12_qTakes_90 rfl 1 rfl ?_
  refine x_iconst (v := 3) dX12_qTakes_91 (by decide) ?_
  refine x_icmp_le (tgt := 133) dX12_qTakes_92 (by decide) (fun c3 => ?_) (fun c3 => ?_)
  · replace H := ite_p H c3
    refine Ex.sub [0] rfl ?_
    exact t_X12_qTakes_133 hd H
  · replace H := ite_m H c3
    refine x_aload_n dX12_qTakes_95 rfl 0 rfl ?_
    obtain ⟨c4, H⟩ := ko_o H
    refine x_getI fr_X12_650 dX12_qTakes_96 c4 rfl ?_
    refine x_if_ne (tgt := 128) dX12_qTakes_99 (by decide) (fun c5 => ?_) (fun c5 => ?_)
    · replace H := ite_m H c5
      refine Ex.sub [0, 2] rfl ?_
      exact t_X12_qTakes_128 hd H
    · replace H := ite_p H c5
      refine x_iload_n dX12_qTakes_102 rfl 1 rfl ?_
      refine x_iconst (v := 4) dX12_qTakes_103 (by decide) ?_
      refine x_icmp_ne (tgt := 119) dX12_qTakes_104 (by decide) (fun c6 => ?_) (fun c6 => ?_)
      · replace H := ite_m H c6
        refine x_lload_n dX12_qTakes_119 rfl 2 rfl ?_
        refine x_aload_n dX12_qTakes_120 rfl 0 rfl ?_
        refine x_getL fr_X12_645 dX12_qTakes_121 c4 rfl ?_
        refine x_lcmp dX12_qTakes_124 ?_
        refine x_if_ge (tgt := 133) dX12_qTakes_125 (by decide) (fun c7 => ?_) (fun c7 => ?_)
        · replace H := ite_p H c7
          refine Ex.sub [0] rfl ?_
          exact t_X12_qTakes_133 hd H
        · replace H := ite_m H c7
          refine Ex.sub [0, 2] rfl ?_
          exact t_X12_qTakes_128 hd H
      · replace H := ite_p H c6
        refine x_lload_n dX12_qTakes_107 rfl 2 rfl ?_
        refine x_aload_n dX12_qTakes_108 rfl 0 rfl ?_
        refine x_getL fr_X12_645 dX12_qTakes_109 c4 rfl ?_
        refine x_lcmp dX12_qTakes_112 ?_
        refine x_if_le (tgt := 133) dX12_qTakes_113 (by decide) (fun c8 => ?_) (fun c8 => ?_)
        · replace H := ite_p H c8
          refine Ex.sub [0] rfl ?_
          exact t_X12_qTakes_133 hd H
        · replace H := ite_m H c8
          refine x_goto (tgt := 128) dX12_qTakes_116 (by decide) ?_
          refine Ex.sub [0, 2] rfl ?_
          exact t_X12_qTakes_128 hd H
def f_X12_qTakes_75 (x0 : Nat) (x1 : Int32) (x2 : Int64) (h : aH) : Option (Unit × aH) :=
  if x1 = 3 then
    ko h x0 11 <|
    f_X12_qTakes_90 x0 x1 x2 (sL h x0 99 ((hL h x0 99) + x2))
  else
    f_X12_qTakes_90 x0 x1 x2 h
set_option maxRecDepth 100000 in
set_option maxHeartbeats 4000000 in
theorem t_X12_qTakes_75 {Γ : gS} {d : Nat} (hd : 0 ≤ d) {x0 : Nat} {x1 : Int32} {x2 : Int64} {h : aH} {r : Unit} {h' : aH} (H : f_X12_qTakes_75 x0 x1 x2 h = some (r, h')) : Ex Γ gX12_qTakes d 75 [(0, .ref x0), (1, .int x1), (2, .long x2)] [] h none h' := by
  unfold f_X12_qTakes_75 at H
  refine x_iload_n dX12_qTakes_75 rfl 1 rfl ?_
  refine x_iconst (v := 3) dX12_qTakes_76 (by decide) ?_
  refine x_icmp_ne (tgt := 90) dX12_qTakes_77 (by decide) (fun c9 => ?_) (fun c9 => ?_)
  · replace H := ite_m H c9
    exact t_X12_qTakes_90 hd H
  · replace H := ite_p H c9
    refine x_aload_n dX12_qTakes_80 rfl 0 rfl ?_
    refine x_dup dX12_qTakes_81 rfl ?_
    obtain ⟨c10, H⟩ := ko_o H
    refine x_getL fr_X12_645 dX12_qTakes_82 c10 rfl ?_
    refine x_lload_n dX12_qTakes_85 rfl 2 rfl ?_
    refine x_ladd dX12_qTakes_86 ?_
    refine x_putL fl_X12_645 dX12_qTakes_87 c10 (fun e => by cases e) rfl ?_
    exact t_X12_qTakes_90 hd H
def f_X12_qTakes_55 (x0 : Nat) (x1 : Int32) (x2 : Int64) (x5 : Int32) (h : aH) : Option (Unit × aH) :=
  if x1 = 2 then
    if x5 = 0 then
      f_X12_qTakes_75 x0 x1 x2 h
    else
      ko h x0 11 <|
      f_X12_qTakes_75 x0 x1 x2 (sL h x0 99 ((hL h x0 99) + 1))
  else
    f_X12_qTakes_75 x0 x1 x2 h
set_option maxRecDepth 100000 in
set_option maxHeartbeats 4000000 in
theorem t_X12_qTakes_55 {Γ : gS} {d : Nat} (hd : 0 ≤ d) {x0 : Nat} {x1 : Int32} {x2 : Int64} {x5 : Int32} {h : aH} {r : Unit} {h' : aH} (H : f_X12_qTakes_55 x0 x1 x2 x5 h = some (r, h')) : Ex Γ gX12_qTakes d 55 [(0, .ref x0), (1, .int x1), (2, .long x2), (5, .int x5)] [] h none h' := by
  unfold f_X12_qTakes_55 at H
  refine x_iload_n dX12_qTakes_55 rfl 1 rfl ?_
  refine x_iconst (v := 2) dX12_qTakes_56 (by decide) ?_
  refine x_icmp_ne (tgt := 75) dX12_qTakes_57 (by decide) (fun c11 => ?_) (fun c11 => ?_)
  · replace H := ite_m H c11
    refine Ex.sub [0, 1, 2] rfl ?_
    exact t_X12_qTakes_75 hd H
  · replace H := ite_p H c11
    refine x_iload dX12_qTakes_60 3 rfl ?_
    refine x_if_eq (tgt := 75) dX12_qTakes_62 (by decide) (fun c12 => ?_) (fun c12 => ?_)
    · replace H := ite_p H c12
      refine Ex.sub [0, 1, 2] rfl ?_
      exact t_X12_qTakes_75 hd H
    · replace H := ite_m H c12
      refine x_aload_n dX12_qTakes_65 rfl 0 rfl ?_
      refine x_dup dX12_qTakes_66 rfl ?_
      obtain ⟨c13, H⟩ := ko_o H
      refine x_getL fr_X12_645 dX12_qTakes_67 c13 rfl ?_
      refine x_lconst (v := 1) dX12_qTakes_70 (by decide) ?_
      refine x_ladd dX12_qTakes_71 ?_
      refine x_putL fl_X12_645 dX12_qTakes_72 c13 (fun e => by cases e) rfl ?_
      refine Ex.sub [0, 1, 2] rfl ?_
      exact t_X12_qTakes_75 hd H
def f_X12_qTakes_48 (x0 : Nat) (x1 : Int32) (x2 : Int64) (x4 : Int32) (x5 : Int32) (h : aH) : Option (Unit × aH) :=
  ko h x0 11 <|
  f_X12_qTakes_55 x0 x1 x2 x5 (sL h x0 99 x4.toInt64)
set_option maxRecDepth 100000 in
set_option maxHeartbeats 4000000 in
theorem t_X12_qTakes_48 {Γ : gS} {d : Nat} (hd : 0 ≤ d) {x0 : Nat} {x1 : Int32} {x2 : Int64} {x4 : Int32} {x5 : Int32} {h : aH} {r : Unit} {h' : aH} (H : f_X12_qTakes_48 x0 x1 x2 x4 x5 h = some (r, h')) : Ex Γ gX12_qTakes d 48 [(0, .ref x0), (1, .int x1), (2, .long x2), (4, .int x4), (5, .int x5)] [] h none h' := by
  unfold f_X12_qTakes_48 at H
  refine x_aload_n dX12_qTakes_48 rfl 0 rfl ?_
  refine x_iload dX12_qTakes_49 3 rfl ?_
  refine x_i2l dX12_qTakes_51 ?_
  obtain ⟨c14, H⟩ := ko_o H
  refine x_putL fl_X12_645 dX12_qTakes_52 c14 (fun e => by cases e) rfl ?_
  refine Ex.sub [0, 1, 2, 4] rfl ?_
  exact t_X12_qTakes_55 hd H
def f_X12_qTakes_38 (x0 : Nat) (x1 : Int32) (x2 : Int64) (x4 : Int32) (x5 : Int32) (h : aH) : Option (Unit × aH) :=
  if x1 = 1 then
    if x5 = 0 then
      f_X12_qTakes_55 x0 x1 x2 x5 h
    else
      f_X12_qTakes_48 x0 x1 x2 x4 x5 h
  else
    f_X12_qTakes_55 x0 x1 x2 x5 h
set_option maxRecDepth 100000 in
set_option maxHeartbeats 4000000 in
theorem t_X12_qTakes_38 {Γ : gS} {d : Nat} (hd : 0 ≤ d) {x0 : Nat} {x1 : Int32} {x2 : Int64} {x4 : Int32} {x5 : Int32} {h : aH} {r : Unit} {h' : aH} (H : f_X12_qTakes_38 x0 x1 x2 x4 x5 h = some (r, h')) : Ex Γ gX12_qTakes d 38 [(0, .ref x0), (1, .int x1), (2, .long x2), (4, .int x4), (5, .int x5)] [] h none h' := by
  unfold f_X12_qTakes_38 at H
  refine x_iload_n dX12_qTakes_38 rfl 1 rfl ?_
  refine x_iconst (v := 1) dX12_qTakes_39 (by decide) ?_
  refine x_icmp_ne (tgt := 55) dX12_qTakes_40 (by decide) (fun c15 => ?_) (fun c15 => ?_)
  · replace H := ite_m H c15
    refine Ex.sub [0, 1, 2, 4] rfl ?_
    exact t_X12_qTakes_55 hd H
  · replace H := ite_p H c15
    refine x_iload dX12_qTakes_43 4 rfl ?_
    refine x_if_eq (tgt := 55) dX12_qTakes_45 (by decide) (fun c16 => ?_) (fun c16 => ?_)
    · replace H := ite_p H c16
      refine Ex.sub [0, 1, 2, 4] rfl ?_
      exact t_X12_qTakes_55 hd H
    · replace H := ite_m H c16
      exact t_X12_qTakes_48 hd H
def f_X12_qTakes_16 (x0 : Nat) (x1 : Int32) (x2 : Int64) (x4 : Int32) (s0 : Int32) (h : aH) : Option (Unit × aH) :=
  if x1 = 0 then
    if s0 = 0 then
      f_X12_qTakes_38 x0 x1 x2 x4 s0 h
    else
      ko h x0 11 <|
      if (lg_cmp (hL h x0 99) (-1)) = 0 then
        f_X12_qTakes_48 x0 x1 x2 x4 s0 h
      else
        f_X12_qTakes_38 x0 x1 x2 x4 s0 h
  else
    f_X12_qTakes_38 x0 x1 x2 x4 s0 h
set_option maxRecDepth 100000 in
set_option maxHeartbeats 4000000 in
theorem t_X12_qTakes_16 {Γ : gS} {d : Nat} (hd : 0 ≤ d) {x0 : Nat} {x1 : Int32} {x2 : Int64} {x4 : Int32} {s0 : Int32} {h : aH} {r : Unit} {h' : aH} (H : f_X12_qTakes_16 x0 x1 x2 x4 s0 h = some (r, h')) : Ex Γ gX12_qTakes d 16 [(0, .ref x0), (1, .int x1), (2, .long x2), (4, .int x4)] [.int s0] h none h' := by
  unfold f_X12_qTakes_16 at H
  refine x_istore (lv' := [(5, .int s0), (0, .ref x0), (1, .int x1), (2, .long x2), (4, .int x4)]) dX12_qTakes_16 (by decide) rfl rfl ?_
  refine x_iload_n dX12_qTakes_18 rfl 2 rfl ?_
  refine x_if_ne (tgt := 38) dX12_qTakes_19 (by decide) (fun c17 => ?_) (fun c17 => ?_)
  · replace H := ite_m H c17
    refine Ex.sub [1, 2, 3, 4, 0] rfl ?_
    exact t_X12_qTakes_38 hd H
  · replace H := ite_p H c17
    refine x_iload dX12_qTakes_22 0 rfl ?_
    refine x_if_eq (tgt := 38) dX12_qTakes_24 (by decide) (fun c18 => ?_) (fun c18 => ?_)
    · replace H := ite_p H c18
      refine Ex.sub [1, 2, 3, 4, 0] rfl ?_
      exact t_X12_qTakes_38 hd H
    · replace H := ite_m H c18
      refine x_aload_n dX12_qTakes_27 rfl 1 rfl ?_
      obtain ⟨c19, H⟩ := ko_o H
      refine x_getL fr_X12_645 dX12_qTakes_28 c19 rfl ?_
      refine x_ldc2 kc_X12_648 dX12_qTakes_31 ?_
      refine x_lcmp dX12_qTakes_34 ?_
      refine x_if_eq (tgt := 48) dX12_qTakes_35 (by decide) (fun c20 => ?_) (fun c20 => ?_)
      · replace H := ite_p H c20
        refine Ex.sub [1, 2, 3, 4, 0] rfl ?_
        exact t_X12_qTakes_48 hd H
      · replace H := ite_m H c20
        refine Ex.sub [1, 2, 3, 4, 0] rfl ?_
        exact t_X12_qTakes_38 hd H
def f_X12_qTakes_15 (x0 : Nat) (x1 : Int32) (x2 : Int64) (x4 : Int32) (h : aH) : Option (Unit × aH) :=
  f_X12_qTakes_16 x0 x1 x2 x4 0 h
set_option maxRecDepth 100000 in
set_option maxHeartbeats 4000000 in
theorem t_X12_qTakes_15 {Γ : gS} {d : Nat} (hd : 0 ≤ d) {x0 : Nat} {x1 : Int32} {x2 : Int64} {x4 : Int32} {h : aH} {r : Unit} {h' : aH} (H : f_X12_qTakes_15 x0 x1 x2 x4 h = some (r, h')) : Ex Γ gX12_qTakes d 15 [(0, .ref x0), (1, .int x1), (2, .long x2), (4, .int x4)] [] h none h' := by
  unfold f_X12_qTakes_15 at H
  refine x_iconst (v := 0) dX12_qTakes_15 (by decide) ?_
  exact t_X12_qTakes_16 hd H
def f_X12_qTakes (x0 : Nat) (x1 : Int32) (x2 : Int64) (x4 : Int32) (h : aH) : Option (Unit × aH) :=
  if 3 ≤ x1 then
    f_X12_qTakes_15 x0 x1 x2 x4 h
  else
    if (lg_cmp x2 1) = 0 then
      f_X12_qTakes_16 x0 x1 x2 x4 1 h
    else
      f_X12_qTakes_15 x0 x1 x2 x4 h
set_option maxRecDepth 100000 in
set_option maxHeartbeats 4000000 in
theorem t_X12_qTakes {Γ : gS} {d : Nat} (hd : 0 ≤ d) {x0 : Nat} {x1 : Int32} {x2 : Int64} {x4 : Int32} {h : aH} {r : Unit} {h' : aH} (H : f_X12_qTakes x0 x1 x2 x4 h = some (r, h')) : Mx Γ gX12_qTakes d [.ref x0, .int x1, .long x2, .int x4] h none h' := by
  refine Mx.of (by decide +kernel) (Nat.le_of_ble_eq_true rfl) ?_
  unfold f_X12_qTakes at H
  show Ex Γ gX12_qTakes d 0 [(0, .ref x0), (1, .int x1), (2, .long x2), (4, .int x4)] [] h none h'
  refine x_iload_n dX12_qTakes_0 rfl 1 rfl ?_
  refine x_iconst (v := 3) dX12_qTakes_1 (by decide) ?_
  refine x_icmp_ge (tgt := 15) dX12_qTakes_2 (by decide) (fun c21 => ?_) (fun c21 => ?_)
  · replace H := ite_p H c21
    exact t_X12_qTakes_15 hd H
  · replace H := ite_m H c21
    refine x_lload_n dX12_qTakes_5 rfl 2 rfl ?_
    refine x_lconst (v := 1) dX12_qTakes_6 (by decide) ?_
    refine x_lcmp dX12_qTakes_7 ?_
    refine x_if_ne (tgt := 15) dX12_qTakes_8 (by decide) (fun c22 => ?_) (fun c22 => ?_)
    · replace H := ite_m H c22
      exact t_X12_qTakes_15 hd H
    · replace H := ite_p H c22
      refine x_iconst (v := 1) dX12_qTakes_11 (by decide) ?_
      refine x_goto (tgt := 16) dX12_qTakes_12 (by decide) ?_
      exact t_X12_qTakes_16 hd H
def b_X12_ask_183 (k183 : Nat → Int32 → Int32 → aH → Option (Int64 × aH)) (x0 : Nat) (x1 : Int32) (x2 : Int32) (h : aH) : Option (Int64 × aH) :=
  if 16 ≤ x2 then
    ko h x0 11 <|
    some (hL h x0 99, h)
  else
    ko h x0 11 <|
    bd (f_X12_qTold x0 x2 (sI h x0 48 x2)) fun v4 h5 =>
    ko h5 x0 11 <|
    bd (f_X12_qTakes x0 x1 v4 x2 h5) fun _ h8 =>
    nm (x2 + 1) fun (v10 : Int32) =>
    k183 x0 x1 v10 h8
set_option maxRecDepth 100000 in
set_option maxHeartbeats 4000000 in
theorem tb_X12_ask_183 {Γ : gS} {d : Nat} (hd : 9 ≤ d) {k183 : Nat → Int32 → Int32 → aH → Option (Int64 × aH)} (hk183 : ∀ {x0 : Nat} {x1 : Int32} {x2 : Int32} {h : aH} {r : Int64} {h' : aH}, k183 x0 x1 x2 h = some (r, h') → Ex Γ gX12_ask d 183 [(0, .ref x0), (1, .int x1), (2, .int x2)] [] h (some (.long r)) h') {x0 : Nat} {x1 : Int32} {x2 : Int32} {h : aH} {r : Int64} {h' : aH} (H : b_X12_ask_183 k183 x0 x1 x2 h = some (r, h')) : Ex Γ gX12_ask d 183 [(0, .ref x0), (1, .int x1), (2, .int x2)] [] h (some (.long r)) h' := by
  unfold b_X12_ask_183 at H
  obtain ⟨d, rfl⟩ : ∃ e, d = e + 1 := ⟨d - 1, by omega⟩
  refine x_iload_n dX12_ask_183 rfl 2 rfl ?_
  refine x_bipush (v := 16) dX12_ask_184 (by decide) ?_
  refine x_icmp_ge (tgt := 211) dX12_ask_186 (by decide) (fun c1 => ?_) (fun c1 => ?_)
  · replace H := ite_p H c1
    refine x_aload_n dX12_ask_211 rfl 0 rfl ?_
    obtain ⟨c2, H⟩ := ko_o H
    refine x_getL fr_X12_645 dX12_ask_212 c2 rfl ?_
    obtain ⟨rfl, rfl⟩ := so_1 H
    exact x_lret dX12_ask_215 rfl
  · replace H := ite_m H c1
    refine x_aload_n dX12_ask_189 rfl 0 rfl ?_
    refine x_iload_n dX12_ask_190 rfl 2 rfl ?_
    obtain ⟨c3, H⟩ := ko_o H
    refine x_putI fl_X12_551 dX12_ask_191 c3 (fun e => by cases e) rfl ?_
    refine x_aload_n dX12_ask_194 rfl 0 rfl ?_
    refine x_iload_n dX12_ask_195 rfl 1 rfl ?_
    refine x_aload_n dX12_ask_196 rfl 0 rfl ?_
    refine x_iload_n dX12_ask_197 rfl 2 rfl ?_
    obtain ⟨v4, h5, hc6, H⟩ := bd_o H
    refine x_callVl (As := [.int x2]) (q := (RX12, TX12, 103)) dX12_ask_198 mi_X12_qTold lk_X12_658 im_X12_qTold se_X12_qTold rfl c3 rfl rfl (Nat.le_of_ble_eq_true rfl) (t_X12_qTold (by omega) hc6) ?_
    refine x_iload_n dX12_ask_201 rfl 2 rfl ?_
    obtain ⟨c11, H⟩ := ko_o H
    obtain ⟨v7, h8, hc9, H⟩ := bd_o H
    refine x_callVv (As := [.int x1, .long v4, .int x2]) (q := (RX12, TX12, 103)) dX12_ask_202 mi_X12_qTakes lk_X12_661 im_X12_qTakes se_X12_qTakes rfl c11 rfl rfl (Nat.le_of_ble_eq_true rfl) (t_X12_qTakes (by omega) hc9) ?_
    obtain ⟨v10, ev10, H⟩ := nm_o H
    refine x_iinc (v := v10) (lv' := [(2, .int v10), (0, .ref x0), (1, .int x1)]) dX12_ask_205 2 rfl (by decide) ev10 rfl ?_
    refine x_goto (tgt := 183) dX12_ask_208 (by decide) ?_
    refine Ex.sub [1, 2, 0] rfl ?_
    exact hk183 H
def f_X12_ask_183 : Nat → Nat → Int32 → Int32 → aH → Option (Int64 × aH)
  | 0 => fun _ _ _ _ => none
  | n + 1 => b_X12_ask_183 (f_X12_ask_183 n)
set_option maxRecDepth 100000 in
set_option maxHeartbeats 4000000 in
theorem t_X12_ask_183 {Γ : gS} {d : Nat} (hd : 9 ≤ d) (n : Nat) : ∀ {x0 : Nat} {x1 : Int32} {x2 : Int32} {h : aH} {r : Int64} {h' : aH}, f_X12_ask_183 n x0 x1 x2 h = some (r, h') → Ex Γ gX12_ask d 183 [(0, .ref x0), (1, .int x1), (2, .int x2)] [] h (some (.long r)) h' := by
  induction n with
  | zero => intro x0 x1 x2 h r h' H; cases H
  | succ n ih => intro x0 x1 x2 h r h' H; exact tb_X12_ask_183 hd ih H
def f_X12_ask_173 (x0 : Nat) (x1 : Int32) (s0 : Nat) (s1 : Int64) (h : aH) : Option (Int64 × aH) :=
  ko h s0 11 <|
  ko h x0 11 <|
  f_X12_ask_183 FU x0 x1 0 (sI (sL h s0 99 s1) x0 100 1)
set_option maxRecDepth 100000 in
set_option maxHeartbeats 4000000 in
theorem t_X12_ask_173 {Γ : gS} {d : Nat} (hd : 9 ≤ d) {x0 : Nat} {x1 : Int32} {s0 : Nat} {s1 : Int64} {h : aH} {r : Int64} {h' : aH} (H : f_X12_ask_173 x0 x1 s0 s1 h = some (r, h')) : Ex Γ gX12_ask d 173 [(0, .ref x0), (1, .int x1)] [.long s1, .ref s0] h (some (.long r)) h' := by
  unfold f_X12_ask_173 at H
  obtain ⟨d, rfl⟩ : ∃ e, d = e + 1 := ⟨d - 1, by omega⟩
  obtain ⟨c12, H⟩ := ko_o H
  refine x_putL fl_X12_645 dX12_ask_173 c12 (fun e => by cases e) rfl ?_
  refine x_aload_n dX12_ask_176 rfl 0 rfl ?_
  refine x_iconst (v := 1) dX12_ask_177 (by decide) ?_
  obtain ⟨c13, H⟩ := ko_o H
  refine x_putZ fl_X12_650 dX12_ask_178 c13 (fun e => by cases e) rfl (by decide) ?_
  refine x_iconst (v := 0) dX12_ask_181 (by decide) ?_
  refine x_istore_n (lv' := [(2, .int 0), (0, .ref x0), (1, .int x1)]) dX12_ask_182 rfl (by decide) rfl rfl ?_
  refine Ex.sub [1, 2, 0] rfl ?_
  exact t_X12_ask_183 hd FU H
def f_X12_ask_133 (x0 : Nat) (x1 : Int32) (h : aH) : Option (Int64 × aH) :=
  ko h x0 11 <|
  nm (hI (sI h x0 7 (hI h x0 5)) x0 6) fun (v15 : Int32) =>
  nm (hI (sI (sI h x0 7 (hI h x0 5)) x0 8 v15) x0 5) fun (v16 : Int32) =>
  if v16 = 0 then
    if 2 ≤ x1 then
      f_X12_ask_173 x0 x1 x0 0 (sI (sI h x0 7 (hI h x0 5)) x0 8 v15)
    else
      f_X12_ask_173 x0 x1 x0 (-1) (sI (sI h x0 7 (hI h x0 5)) x0 8 v15)
  else
    some ((-1000000000000000), sI (sI h x0 7 (hI h x0 5)) x0 8 v15)
set_option maxRecDepth 100000 in
set_option maxHeartbeats 4000000 in
theorem t_X12_ask_133 {Γ : gS} {d : Nat} (hd : 9 ≤ d) {x0 : Nat} {x1 : Int32} {h : aH} {r : Int64} {h' : aH} (H : f_X12_ask_133 x0 x1 h = some (r, h')) : Ex Γ gX12_ask d 133 [(0, .ref x0), (1, .int x1)] [] h (some (.long r)) h' := by
  unfold f_X12_ask_133 at H
  obtain ⟨d, rfl⟩ : ∃ e, d = e + 1 := ⟨d - 1, by omega⟩
  refine x_aload_n dX12_ask_133 rfl 0 rfl ?_
  refine x_aload_n dX12_ask_134 rfl 0 rfl ?_
  obtain ⟨c14, H⟩ := ko_o H
  refine x_getI fr_X12_225 dX12_ask_135 c14 rfl ?_
  refine x_putI fl_X12_342 dX12_ask_138 c14 (fun e => by cases e) rfl ?_
  refine x_aload_n dX12_ask_141 rfl 0 rfl ?_
  refine x_aload_n dX12_ask_142 rfl 0 rfl ?_
  obtain ⟨v15, ev15, H⟩ := nm_o H
  refine x_getIe fr_X12_228 dX12_ask_143 c14 rfl ev15 ?_
  refine x_putI fl_X12_13 dX12_ask_146 c14 (fun e => by cases e) rfl ?_
  refine x_aload_n dX12_ask_149 rfl 0 rfl ?_
  obtain ⟨v16, ev16, H⟩ := nm_o H
  refine x_getIe fr_X12_225 dX12_ask_150 c14 rfl ev16 ?_
  refine x_if_eq (tgt := 160) dX12_ask_153 (by decide) (fun c17 => ?_) (fun c17 => ?_)
  · replace H := ite_p H c17
    refine x_aload_n dX12_ask_160 rfl 0 rfl ?_
    refine x_iload_n dX12_ask_161 rfl 1 rfl ?_
    refine x_iconst (v := 2) dX12_ask_162 (by decide) ?_
    refine x_icmp_ge (tgt := 172) dX12_ask_163 (by decide) (fun c18 => ?_) (fun c18 => ?_)
    · replace H := ite_p H c18
      refine x_lconst (v := 0) dX12_ask_172 (by decide) ?_
      exact t_X12_ask_173 hd H
    · replace H := ite_m H c18
      refine x_ldc2 kc_X12_648 dX12_ask_166 ?_
      refine x_goto (tgt := 173) dX12_ask_169 (by decide) ?_
      exact t_X12_ask_173 hd H
  · replace H := ite_m H c17
    refine x_ldc2 kc_X12_653 dX12_ask_156 ?_
    obtain ⟨rfl, rfl⟩ := so_1 H
    exact x_lret dX12_ask_159 rfl
def f_X12_ask_109 (x0 : Nat) (x1 : Int32) (h : aH) : Option (Int64 × aH) :=
  ko h x0 11 <|
  if (hI h x0 5) = 0 then
    bd (f_X12_look x0 h) fun v21 h22 =>
    if v21 = (-1) then
      f_X12_ask_133 x0 x1 h22
    else
      ko h22 x0 11 <|
      bd (f_X12_fail x0 1 (hI h22 x0 2) h22) fun _ h27 =>
      f_X12_ask_133 x0 x1 h27
  else
    f_X12_ask_133 x0 x1 h
set_option maxRecDepth 100000 in
set_option maxHeartbeats 4000000 in
theorem t_X12_ask_109 {Γ : gS} {d : Nat} (hd : 9 ≤ d) {x0 : Nat} {x1 : Int32} {h : aH} {r : Int64} {h' : aH} (H : f_X12_ask_109 x0 x1 h = some (r, h')) : Ex Γ gX12_ask d 109 [(0, .ref x0), (1, .int x1)] [] h (some (.long r)) h' := by
  unfold f_X12_ask_109 at H
  obtain ⟨d, rfl⟩ : ∃ e, d = e + 1 := ⟨d - 1, by omega⟩
  refine x_aload_n dX12_ask_109 rfl 0 rfl ?_
  obtain ⟨c19, H⟩ := ko_o H
  refine x_getI fr_X12_225 dX12_ask_110 c19 rfl ?_
  refine x_if_ne (tgt := 133) dX12_ask_113 (by decide) (fun c20 => ?_) (fun c20 => ?_)
  · replace H := ite_m H c20
    exact t_X12_ask_133 hd H
  · replace H := ite_p H c20
    refine x_aload_n dX12_ask_116 rfl 0 rfl ?_
    obtain ⟨v21, h22, hc23, H⟩ := bd_o H
    refine x_callVi (As := []) (q := (RX12, TX12, 103)) dX12_ask_117 mi_X12_look lk_X12_237 im_X12_look se_X12_look rfl c19 rfl rfl (Nat.le_of_ble_eq_true rfl) (t_X12_look (by omega) hc23) ?_
    refine x_iconst (v := (-1)) dX12_ask_120 (by decide) ?_
    refine x_icmp_eq (tgt := 133) dX12_ask_121 (by decide) (fun c24 => ?_) (fun c24 => ?_)
    · replace H := ite_p H c24
      exact t_X12_ask_133 hd H
    · replace H := ite_m H c24
      refine x_aload_n dX12_ask_124 rfl 0 rfl ?_
      refine x_iconst (v := 1) dX12_ask_125 (by decide) ?_
      refine x_aload_n dX12_ask_126 rfl 0 rfl ?_
      obtain ⟨c25, H⟩ := ko_o H
      refine x_getI fr_X12_231 dX12_ask_127 c25 rfl ?_
      obtain ⟨v26, h27, hc28, H⟩ := bd_o H
      refine x_callVv (As := [.int 1, .int (hI h22 x0 2)]) (q := (RX12, TX12, 103)) dX12_ask_130 mi_X12_fail lk_X12_255 im_X12_fail se_X12_fail rfl c25 rfl rfl (Nat.le_of_ble_eq_true rfl) (t_X12_fail (by omega) hc28) ?_
      exact t_X12_ask_133 hd H
def f_X12_ask_98 (x0 : Nat) (x1 : Int32) (h : aH) : Option (Int64 × aH) :=
  ko h x0 11 <|
  if (hI h x0 5) = 0 then
    bd (f_X12_qSums x0 h) fun _ h32 =>
    f_X12_ask_109 x0 x1 h32
  else
    f_X12_ask_109 x0 x1 h
set_option maxRecDepth 100000 in
set_option maxHeartbeats 4000000 in
theorem t_X12_ask_98 {Γ : gS} {d : Nat} (hd : 9 ≤ d) {x0 : Nat} {x1 : Int32} {h : aH} {r : Int64} {h' : aH} (H : f_X12_ask_98 x0 x1 h = some (r, h')) : Ex Γ gX12_ask d 98 [(0, .ref x0), (1, .int x1)] [] h (some (.long r)) h' := by
  unfold f_X12_ask_98 at H
  obtain ⟨d, rfl⟩ : ∃ e, d = e + 1 := ⟨d - 1, by omega⟩
  refine x_aload_n dX12_ask_98 rfl 0 rfl ?_
  obtain ⟨c29, H⟩ := ko_o H
  refine x_getI fr_X12_225 dX12_ask_99 c29 rfl ?_
  refine x_if_ne (tgt := 109) dX12_ask_102 (by decide) (fun c30 => ?_) (fun c30 => ?_)
  · replace H := ite_m H c30
    exact t_X12_ask_109 hd H
  · replace H := ite_p H c30
    refine x_aload_n dX12_ask_105 rfl 0 rfl ?_
    obtain ⟨v31, h32, hc33, H⟩ := bd_o H
    refine x_callVv (As := []) (q := (RX12, TX12, 103)) dX12_ask_106 mi_X12_qSums lk_X12_321 im_X12_qSums se_X12_qSums rfl c29 rfl rfl (Nat.le_of_ble_eq_true rfl) (t_X12_qSums (by omega) hc33) ?_
    exact t_X12_ask_109 hd H
def f_X12_ask (x0 : Nat) (h : aH) : Option (Int64 × aH) :=
  ko h x0 11 <|
  if (hI h x0 45) = 0 then
    some ((-1000000000000000), sI h x0 1 0)
  else
    bd (f_X12_qKind x0 (sI (sI (sI (sI (sI (sI (sI (sI (sI (sI (sI h x0 3 (hI h x0 1)) x0 1 0) x0 2 0) x0 4 (-1)) x0 5 0) x0 6 (-1)) x0 46 3) x0 92 0) x0 94 0) x0 95 0) x0 96 0)) fun v36 h37 =>
    ko h37 x0 11 <|
    if (hI h37 x0 5) = 0 then
      if 3 ≤ v36 then
        f_X12_ask_98 x0 v36 h37
      else
        bd (f_X12_qTest x0 h37) fun _ h43 =>
        f_X12_ask_109 x0 v36 h43
    else
      f_X12_ask_98 x0 v36 h37
set_option maxRecDepth 100000 in
set_option maxHeartbeats 4000000 in
theorem t_X12_ask {Γ : gS} {d : Nat} (hd : 9 ≤ d) {x0 : Nat} {h : aH} {r : Int64} {h' : aH} (H : f_X12_ask x0 h = some (r, h')) : Mx Γ gX12_ask d [.ref x0] h (some (.long r)) h' := by
  refine Mx.of (by decide +kernel) (Nat.le_of_ble_eq_true rfl) ?_
  unfold f_X12_ask at H
  show Ex Γ gX12_ask d 0 [(0, .ref x0)] [] h (some (.long r)) h'
  obtain ⟨d, rfl⟩ : ∃ e, d = e + 1 := ⟨d - 1, by omega⟩
  refine x_aload_n dX12_ask_0 rfl 0 rfl ?_
  obtain ⟨c34, H⟩ := ko_o H
  refine x_getI fr_X12_352 dX12_ask_1 c34 rfl ?_
  refine x_if_ne (tgt := 16) dX12_ask_4 (by decide) (fun c35 => ?_) (fun c35 => ?_)
  · replace H := ite_m H c35
    refine x_aload_n dX12_ask_16 rfl 0 rfl ?_
    refine x_aload_n dX12_ask_17 rfl 0 rfl ?_
    refine x_getI fr_X12_222 dX12_ask_18 c34 rfl ?_
    refine x_putI fl_X12_234 dX12_ask_21 c34 (fun e => by cases e) rfl ?_
    refine x_aload_n dX12_ask_24 rfl 0 rfl ?_
    refine x_iconst (v := 0) dX12_ask_25 (by decide) ?_
    refine x_putI fl_X12_222 dX12_ask_26 c34 (fun e => by cases e) rfl ?_
    refine x_aload_n dX12_ask_29 rfl 0 rfl ?_
    refine x_iconst (v := 0) dX12_ask_30 (by decide) ?_
    refine x_putI fl_X12_231 dX12_ask_31 c34 (fun e => by cases e) rfl ?_
    refine x_aload_n dX12_ask_34 rfl 0 rfl ?_
    refine x_iconst (v := (-1)) dX12_ask_35 (by decide) ?_
    refine x_putI fl_X12_245 dX12_ask_36 c34 (fun e => by cases e) rfl ?_
    refine x_aload_n dX12_ask_39 rfl 0 rfl ?_
    refine x_iconst (v := 0) dX12_ask_40 (by decide) ?_
    refine x_putI fl_X12_225 dX12_ask_41 c34 (fun e => by cases e) rfl ?_
    refine x_aload_n dX12_ask_44 rfl 0 rfl ?_
    refine x_iconst (v := (-1)) dX12_ask_45 (by decide) ?_
    refine x_putI fl_X12_228 dX12_ask_46 c34 (fun e => by cases e) rfl ?_
    refine x_aload_n dX12_ask_49 rfl 0 rfl ?_
    refine x_iconst (v := 3) dX12_ask_50 (by decide) ?_
    refine x_putI fl_X12_283 dX12_ask_51 c34 (fun e => by cases e) rfl ?_
    refine x_aload_n dX12_ask_54 rfl 0 rfl ?_
    refine x_iconst (v := 0) dX12_ask_55 (by decide) ?_
    refine x_putI fl_X12_306 dX12_ask_56 c34 (fun e => by cases e) rfl ?_
    refine x_aload_n dX12_ask_59 rfl 0 rfl ?_
    refine x_iconst (v := 0) dX12_ask_60 (by decide) ?_
    refine x_putI fl_X12_309 dX12_ask_61 c34 (fun e => by cases e) rfl ?_
    refine x_aload_n dX12_ask_64 rfl 0 rfl ?_
    refine x_iconst (v := 0) dX12_ask_65 (by decide) ?_
    refine x_putI fl_X12_312 dX12_ask_66 c34 (fun e => by cases e) rfl ?_
    refine x_aload_n dX12_ask_69 rfl 0 rfl ?_
    refine x_iconst (v := 0) dX12_ask_70 (by decide) ?_
    refine x_putI fl_X12_315 dX12_ask_71 c34 (fun e => by cases e) rfl ?_
    refine x_aload_n dX12_ask_74 rfl 0 rfl ?_
    obtain ⟨v36, h37, hc38, H⟩ := bd_o H
    refine x_callVi (As := []) (q := (RX12, TX12, 103)) dX12_ask_75 mi_X12_qKind lk_X12_655 im_X12_qKind se_X12_qKind rfl c34 rfl rfl (Nat.le_of_ble_eq_true rfl) (t_X12_qKind (by omega) hc38) ?_
    refine x_istore_n (lv' := [(1, .int v36), (0, .ref x0)]) dX12_ask_78 rfl (by decide) rfl rfl ?_
    refine x_aload_n dX12_ask_79 rfl 1 rfl ?_
    obtain ⟨c39, H⟩ := ko_o H
    refine x_getI fr_X12_225 dX12_ask_80 c39 rfl ?_
    refine x_if_ne (tgt := 98) dX12_ask_83 (by decide) (fun c40 => ?_) (fun c40 => ?_)
    · replace H := ite_m H c40
      refine Ex.sub [1, 0] rfl ?_
      exact t_X12_ask_98 hd H
    · replace H := ite_p H c40
      refine x_iload_n dX12_ask_86 rfl 0 rfl ?_
      refine x_iconst (v := 3) dX12_ask_87 (by decide) ?_
      refine x_icmp_ge (tgt := 98) dX12_ask_88 (by decide) (fun c41 => ?_) (fun c41 => ?_)
      · replace H := ite_p H c41
        refine Ex.sub [1, 0] rfl ?_
        exact t_X12_ask_98 hd H
      · replace H := ite_m H c41
        refine x_aload_n dX12_ask_91 rfl 1 rfl ?_
        obtain ⟨v42, h43, hc44, H⟩ := bd_o H
        refine x_callVv (As := []) (q := (RX12, TX12, 103)) dX12_ask_92 mi_X12_qTest lk_X12_318 im_X12_qTest se_X12_qTest rfl c39 rfl rfl (Nat.le_of_ble_eq_true rfl) (t_X12_qTest (by omega) hc44) ?_
        refine x_goto (tgt := 109) dX12_ask_95 (by decide) ?_
        refine Ex.sub [1, 0] rfl ?_
        exact t_X12_ask_109 hd H
  · replace H := ite_p H c35
    refine x_aload_n dX12_ask_7 rfl 0 rfl ?_
    refine x_iconst (v := 0) dX12_ask_8 (by decide) ?_
    refine x_putI fl_X12_222 dX12_ask_9 c34 (fun e => by cases e) rfl ?_
    refine x_ldc2 kc_X12_653 dX12_ask_12 ?_
    obtain ⟨rfl, rfl⟩ := so_1 H
    exact x_lret dX12_ask_15 rfl
def b_X12_checked_6 (k6 : Nat → Int32 → Int32 → Int32 → aH → Option (Int32 × aH)) (x0 : Nat) (x1 : Int32) (x2 : Int32) (x3 : Int32) (h : aH) : Option (Int32 × aH) :=
  if x1 ≤ x3 then
    some (x2, h)
  else
    ka h x0 .int fun n3 =>
    chk (inb x3 n3 = true) <|
    nm (((3 * x2) + (hI h x0 x3.toNatClampNeg)) - ((3 * x2) + (hI h x0 x3.toNatClampNeg)) / 251 * 251) fun (v5 : Int32) =>
    nm (x3 + 1) fun (v6 : Int32) =>
    k6 x0 x1 v5 v6 h
set_option maxRecDepth 100000 in
set_option maxHeartbeats 4000000 in
theorem tb_X12_checked_6 {Γ : gS} {d : Nat} (hd : 0 ≤ d) {k6 : Nat → Int32 → Int32 → Int32 → aH → Option (Int32 × aH)} (hk6 : ∀ {x0 : Nat} {x1 : Int32} {x2 : Int32} {x3 : Int32} {h : aH} {r : Int32} {h' : aH}, k6 x0 x1 x2 x3 h = some (r, h') → Ex Γ gX12_checked d 6 [(0, .ref x0), (1, .int x1), (2, .int x2), (3, .int x3)] [] h (some (.int r)) h') {x0 : Nat} {x1 : Int32} {x2 : Int32} {x3 : Int32} {h : aH} {r : Int32} {h' : aH} (H : b_X12_checked_6 k6 x0 x1 x2 x3 h = some (r, h')) : Ex Γ gX12_checked d 6 [(0, .ref x0), (1, .int x1), (2, .int x2), (3, .int x3)] [] h (some (.int r)) h' := by
  unfold b_X12_checked_6 at H
  refine x_iload_n dX12_checked_6 rfl 3 rfl ?_
  refine x_iload_n dX12_checked_7 rfl 1 rfl ?_
  refine x_icmp_ge (tgt := 29) dX12_checked_8 (by decide) (fun c1 => ?_) (fun c1 => ?_)
  · replace H := ite_p H c1
    refine x_iload_n dX12_checked_29 rfl 2 rfl ?_
    obtain ⟨rfl, rfl⟩ := so_1 H
    exact x_iret dX12_checked_30 rfl rfl
  · replace H := ite_m H c1
    refine x_iconst (v := 3) dX12_checked_11 (by decide) ?_
    refine x_iload_n dX12_checked_12 rfl 2 rfl ?_
    refine x_imul dX12_checked_13 ?_
    refine x_aload_n dX12_checked_14 rfl 0 rfl ?_
    refine x_iload_n dX12_checked_15 rfl 3 rfl ?_
    obtain ⟨n3, c2, H⟩ := ka_o H
    obtain ⟨c4, H⟩ := chk_o H
    refine x_iald dX12_checked_16 c2 (inb_in.mp c4) ?_
    refine x_iadd dX12_checked_17 ?_
    refine x_sipush (v := 251) dX12_checked_18 (by decide) ?_
    refine x_irem dX12_checked_21 (by decide) ?_
    obtain ⟨v5, ev5, H⟩ := nm_o H
    refine x_istore_n (lv' := [(2, .int v5), (0, .ref x0), (1, .int x1), (3, .int x3)]) dX12_checked_22 rfl (by decide) ev5 rfl ?_
    obtain ⟨v6, ev6, H⟩ := nm_o H
    refine x_iinc (v := v6) (lv' := [(3, .int v6), (2, .int v5), (0, .ref x0), (1, .int x1)]) dX12_checked_23 3 rfl (by decide) ev6 rfl ?_
    refine x_goto (tgt := 6) dX12_checked_26 (by decide) ?_
    refine Ex.sub [2, 3, 1, 0] rfl ?_
    exact hk6 H
def f_X12_checked_6 : Nat → Nat → Int32 → Int32 → Int32 → aH → Option (Int32 × aH)
  | 0 => fun _ _ _ _ _ => none
  | n + 1 => b_X12_checked_6 (f_X12_checked_6 n)
set_option maxRecDepth 100000 in
set_option maxHeartbeats 4000000 in
theorem t_X12_checked_6 {Γ : gS} {d : Nat} (hd : 0 ≤ d) (n : Nat) : ∀ {x0 : Nat} {x1 : Int32} {x2 : Int32} {x3 : Int32} {h : aH} {r : Int32} {h' : aH}, f_X12_checked_6 n x0 x1 x2 x3 h = some (r, h') → Ex Γ gX12_checked d 6 [(0, .ref x0), (1, .int x1), (2, .int x2), (3, .int x3)] [] h (some (.int r)) h' := by
  induction n with
  | zero => intro x0 x1 x2 x3 h r h' H; cases H
  | succ n ih => intro x0 x1 x2 x3 h r h' H; exact tb_X12_checked_6 hd ih H
def f_X12_checked (x0 : Nat) (x1 : Int32) (h : aH) : Option (Int32 × aH) :=
  f_X12_checked_6 FU x0 x1 149 0 h
set_option maxRecDepth 100000 in
set_option maxHeartbeats 4000000 in
theorem t_X12_checked {Γ : gS} {d : Nat} (hd : 0 ≤ d) {x0 : Nat} {x1 : Int32} {h : aH} {r : Int32} {h' : aH} (H : f_X12_checked x0 x1 h = some (r, h')) : Mx Γ gX12_checked d [.ref x0, .int x1] h (some (.int r)) h' := by
  refine Mx.of (by decide +kernel) (Nat.le_of_ble_eq_true rfl) ?_
  unfold f_X12_checked at H
  show Ex Γ gX12_checked d 0 [(0, .ref x0), (1, .int x1)] [] h (some (.int r)) h'
  refine x_sipush (v := 149) dX12_checked_0 (by decide) ?_
  refine x_istore_n (lv' := [(2, .int 149), (0, .ref x0), (1, .int x1)]) dX12_checked_3 rfl (by decide) rfl rfl ?_
  refine x_iconst (v := 0) dX12_checked_4 (by decide) ?_
  refine x_istore_n (lv' := [(3, .int 0), (2, .int 149), (0, .ref x0), (1, .int x1)]) dX12_checked_5 rfl (by decide) rfl rfl ?_
  refine Ex.sub [2, 3, 1, 0] rfl ?_
  exact t_X12_checked_6 hd FU H
def f_X12_writes (x0 : Nat) (x1 : Int32) (h : aH) : Option (Unit × aH) :=
  ko h x0 11 <|
  kr (hR h x0 101) fun a2 =>
  ka h a2 .int fun n5 =>
  chk (inb (hI h x0 102) n5 = true) <|
  nm (hI (sI h a2 (hI h x0 102 : Int32).toNatClampNeg x1) x0 102) fun (v7 : Int32) =>
  some ((), sI (sI h a2 (hI h x0 102 : Int32).toNatClampNeg x1) x0 102 (v7 + 1))
set_option maxRecDepth 100000 in
set_option maxHeartbeats 4000000 in
theorem t_X12_writes {Γ : gS} {d : Nat} (hd : 0 ≤ d) {x0 : Nat} {x1 : Int32} {h : aH} {r : Unit} {h' : aH} (H : f_X12_writes x0 x1 h = some (r, h')) : Mx Γ gX12_writes d [.ref x0, .int x1] h none h' := by
  refine Mx.of (by decide +kernel) (Nat.le_of_ble_eq_true rfl) ?_
  unfold f_X12_writes at H
  show Ex Γ gX12_writes d 0 [(0, .ref x0), (1, .int x1)] [] h none h'
  refine x_aload_n dX12_writes_0 rfl 0 rfl ?_
  obtain ⟨c1, H⟩ := ko_o H
  obtain ⟨a2, c3, H⟩ := kr_o H
  refine x_getR fr_X12_219 dX12_writes_1 c1 rfl c3 ?_
  refine x_aload_n dX12_writes_4 rfl 0 rfl ?_
  refine x_getI fr_X12_665 dX12_writes_5 c1 rfl ?_
  refine x_iload_n dX12_writes_8 rfl 1 rfl ?_
  obtain ⟨n5, c4, H⟩ := ka_o H
  obtain ⟨c6, H⟩ := chk_o H
  refine x_iast dX12_writes_9 c4 (inb_in.mp c6) ?_
  refine x_aload_n dX12_writes_10 rfl 0 rfl ?_
  refine x_dup dX12_writes_11 rfl ?_
  obtain ⟨v7, ev7, H⟩ := nm_o H
  refine x_getIe fr_X12_665 dX12_writes_12 c1 rfl ev7 ?_
  refine x_iconst (v := 1) dX12_writes_15 (by decide) ?_
  refine x_iadd dX12_writes_16 ?_
  refine x_putI fl_X12_665 dX12_writes_17 c1 (fun e => by cases e) rfl ?_
  obtain ⟨-, rfl⟩ := so_1 H
  exact x_vret dX12_writes_20 rfl
def f_X12_writesTwo (x0 : Nat) (x1 : Int32) (h : aH) : Option (Unit × aH) :=
  ko h x0 11 <|
  bd (f_X12_writes x0 (x1 / 256) h) fun _ h2 =>
  ko h2 x0 11 <|
  bd (f_X12_writes x0 (x1 - x1 / 256 * 256) h2) fun _ h5 =>
  some ((), h5)
set_option maxRecDepth 100000 in
set_option maxHeartbeats 4000000 in
theorem t_X12_writesTwo {Γ : gS} {d : Nat} (hd : 1 ≤ d) {x0 : Nat} {x1 : Int32} {h : aH} {r : Unit} {h' : aH} (H : f_X12_writesTwo x0 x1 h = some (r, h')) : Mx Γ gX12_writesTwo d [.ref x0, .int x1] h none h' := by
  refine Mx.of (by decide +kernel) (Nat.le_of_ble_eq_true rfl) ?_
  unfold f_X12_writesTwo at H
  show Ex Γ gX12_writesTwo d 0 [(0, .ref x0), (1, .int x1)] [] h none h'
  obtain ⟨d, rfl⟩ : ∃ e, d = e + 1 := ⟨d - 1, by omega⟩
  refine x_aload_n dX12_writesTwo_0 rfl 0 rfl ?_
  refine x_iload_n dX12_writesTwo_1 rfl 1 rfl ?_
  refine x_sipush (v := 256) dX12_writesTwo_2 (by decide) ?_
  refine x_idiv dX12_writesTwo_5 (by decide) ?_
  obtain ⟨c8, H⟩ := ko_o H
  obtain ⟨v1, h2, hc3, H⟩ := bd_o H
  refine x_callVv (As := [.int (x1 / 256)]) (q := (RX12, TX12, 103)) dX12_writesTwo_6 mi_X12_writes lk_X12_668 im_X12_writes se_X12_writes rfl c8 rfl rfl (Nat.le_of_ble_eq_true rfl) (t_X12_writes (by omega) hc3) ?_
  refine x_aload_n dX12_writesTwo_9 rfl 0 rfl ?_
  refine x_iload_n dX12_writesTwo_10 rfl 1 rfl ?_
  refine x_sipush (v := 256) dX12_writesTwo_11 (by decide) ?_
  refine x_irem dX12_writesTwo_14 (by decide) ?_
  obtain ⟨c7, H⟩ := ko_o H
  obtain ⟨v4, h5, hc6, H⟩ := bd_o H
  refine x_callVv (As := [.int (x1 - x1 / 256 * 256)]) (q := (RX12, TX12, 103)) dX12_writesTwo_15 mi_X12_writes lk_X12_668 im_X12_writes se_X12_writes rfl c7 rfl rfl (Nat.le_of_ble_eq_true rfl) (t_X12_writes (by omega) hc6) ?_
  obtain ⟨-, rfl⟩ := so_1 H
  exact x_vret dX12_writesTwo_18 rfl
def f_X12_twoAt (x0 : Nat) (x1 : Int32) (h : aH) : Option (Int32 × aH) :=
  ko h x0 11 <|
  kr (hR h x0 0) fun a2 =>
  ka h a2 .int fun n5 =>
  chk (inb x1 n5 = true) <|
  chk (inb (x1 + 1) n5 = true) <|
  some ((256 * (hI h a2 x1.toNatClampNeg)) + (hI h a2 (x1 + 1 : Int32).toNatClampNeg), h)
set_option maxRecDepth 100000 in
set_option maxHeartbeats 4000000 in
theorem t_X12_twoAt {Γ : gS} {d : Nat} (hd : 0 ≤ d) {x0 : Nat} {x1 : Int32} {h : aH} {r : Int32} {h' : aH} (H : f_X12_twoAt x0 x1 h = some (r, h')) : Mx Γ gX12_twoAt d [.ref x0, .int x1] h (some (.int r)) h' := by
  refine Mx.of (by decide +kernel) (Nat.le_of_ble_eq_true rfl) ?_
  unfold f_X12_twoAt at H
  show Ex Γ gX12_twoAt d 0 [(0, .ref x0), (1, .int x1)] [] h (some (.int r)) h'
  refine x_sipush (v := 256) dX12_twoAt_0 (by decide) ?_
  refine x_aload_n dX12_twoAt_3 rfl 0 rfl ?_
  obtain ⟨c1, H⟩ := ko_o H
  obtain ⟨a2, c3, H⟩ := kr_o H
  refine x_getR fr_X12_7 dX12_twoAt_4 c1 rfl c3 ?_
  refine x_iload_n dX12_twoAt_7 rfl 1 rfl ?_
  obtain ⟨n5, c4, H⟩ := ka_o H
  obtain ⟨c6, H⟩ := chk_o H
  refine x_iald dX12_twoAt_8 c4 (inb_in.mp c6) ?_
  refine x_imul dX12_twoAt_9 ?_
  refine x_aload_n dX12_twoAt_10 rfl 0 rfl ?_
  refine x_getR fr_X12_7 dX12_twoAt_11 c1 rfl c3 ?_
  refine x_iload_n dX12_twoAt_14 rfl 1 rfl ?_
  refine x_iconst (v := 1) dX12_twoAt_15 (by decide) ?_
  refine x_iadd dX12_twoAt_16 ?_
  obtain ⟨c7, H⟩ := chk_o H
  refine x_iald dX12_twoAt_17 c4 (inb_in.mp c7) ?_
  refine x_iadd dX12_twoAt_18 ?_
  obtain ⟨rfl, rfl⟩ := so_1 H
  exact x_iret dX12_twoAt_19 rfl rfl
def f_X12_octet_22 (s0 : Int32) (h : aH) : Option (Int32 × aH) :=
  some (s0, h)
set_option maxRecDepth 100000 in
set_option maxHeartbeats 4000000 in
theorem t_X12_octet_22 {Γ : gS} {d : Nat} (hd : 0 ≤ d) {s0 : Int32} {h : aH} {r : Int32} {h' : aH} (H : f_X12_octet_22 s0 h = some (r, h')) : Ex Γ gX12_octet d 22 [] [.int s0] h (some (.int r)) h' := by
  unfold f_X12_octet_22 at H
  obtain ⟨rfl, rfl⟩ := so_1 H
  exact x_iret dX12_octet_22 rfl rfl
def f_X12_octet_21 (h : aH) : Option (Int32 × aH) :=
  f_X12_octet_22 (-1) h
set_option maxRecDepth 100000 in
set_option maxHeartbeats 4000000 in
theorem t_X12_octet_21 {Γ : gS} {d : Nat} (hd : 0 ≤ d) {h : aH} {r : Int32} {h' : aH} (H : f_X12_octet_21 h = some (r, h')) : Ex Γ gX12_octet d 21 [] [] h (some (.int r)) h' := by
  unfold f_X12_octet_21 at H
  refine x_iconst (v := (-1)) dX12_octet_21 (by decide) ?_
  exact t_X12_octet_22 hd H
def f_X12_octet (x0 : Nat) (x1 : Int32) (h : aH) : Option (Int32 × aH) :=
  if x1 < 0 then
    f_X12_octet_21 h
  else
    ko h x0 11 <|
    if (hI h x0 102) ≤ x1 then
      f_X12_octet_21 h
    else
      kr (hR h x0 101) fun a4 =>
      ka h a4 .int fun n7 =>
      chk (inb x1 n7 = true) <|
      f_X12_octet_22 (hI h a4 x1.toNatClampNeg) h
set_option maxRecDepth 100000 in
set_option maxHeartbeats 4000000 in
theorem t_X12_octet {Γ : gS} {d : Nat} (hd : 0 ≤ d) {x0 : Nat} {x1 : Int32} {h : aH} {r : Int32} {h' : aH} (H : f_X12_octet x0 x1 h = some (r, h')) : Mx Γ gX12_octet d [.ref x0, .int x1] h (some (.int r)) h' := by
  refine Mx.of (by decide +kernel) (Nat.le_of_ble_eq_true rfl) ?_
  unfold f_X12_octet at H
  show Ex Γ gX12_octet d 0 [(0, .ref x0), (1, .int x1)] [] h (some (.int r)) h'
  refine x_iload_n dX12_octet_0 rfl 1 rfl ?_
  refine x_if_lt (tgt := 21) dX12_octet_1 (by decide) (fun c1 => ?_) (fun c1 => ?_)
  · replace H := ite_p H c1
    refine Ex.sub [] rfl ?_
    exact t_X12_octet_21 hd H
  · replace H := ite_m H c1
    refine x_iload_n dX12_octet_4 rfl 1 rfl ?_
    refine x_aload_n dX12_octet_5 rfl 0 rfl ?_
    obtain ⟨c2, H⟩ := ko_o H
    refine x_getI fr_X12_665 dX12_octet_6 c2 rfl ?_
    refine x_icmp_ge (tgt := 21) dX12_octet_9 (by decide) (fun c3 => ?_) (fun c3 => ?_)
    · replace H := ite_p H c3
      refine Ex.sub [] rfl ?_
      exact t_X12_octet_21 hd H
    · replace H := ite_m H c3
      refine x_aload_n dX12_octet_12 rfl 0 rfl ?_
      obtain ⟨a4, c5, H⟩ := kr_o H
      refine x_getR fr_X12_219 dX12_octet_13 c2 rfl c5 ?_
      refine x_iload_n dX12_octet_16 rfl 1 rfl ?_
      obtain ⟨n7, c6, H⟩ := ka_o H
      obtain ⟨c8, H⟩ := chk_o H
      refine x_iald dX12_octet_17 c6 (inb_in.mp c8) ?_
      refine x_goto (tgt := 22) dX12_octet_18 (by decide) ?_
      refine Ex.sub [] rfl ?_
      exact t_X12_octet_22 hd H
def f_X12_status_22 (s0 : Int32) (h : aH) : Option (Int32 × aH) :=
  some (s0, h)
set_option maxRecDepth 100000 in
set_option maxHeartbeats 4000000 in
theorem t_X12_status_22 {Γ : gS} {d : Nat} (hd : 1 ≤ d) {s0 : Int32} {h : aH} {r : Int32} {h' : aH} (H : f_X12_status_22 s0 h = some (r, h')) : Ex Γ gX12_status d 22 [] [.int s0] h (some (.int r)) h' := by
  unfold f_X12_status_22 at H
  obtain ⟨d, rfl⟩ : ∃ e, d = e + 1 := ⟨d - 1, by omega⟩
  obtain ⟨rfl, rfl⟩ := so_1 H
  exact x_iret dX12_status_22 rfl rfl
def f_X12_status (x0 : Nat) (x1 : Int32) (h : aH) : Option (Int32 × aH) :=
  bd (f_X12_isIn x1.toInt64 0 7 h) fun v1 h2 =>
  if v1 = 0 then
    f_X12_status_22 (-1) h2
  else
    ko h2 x0 11 <|
    kr (hR h2 x0 9) fun a6 =>
    ka h2 a6 .int fun n9 =>
    chk (inb x1 n9 = true) <|
    f_X12_status_22 (hI h2 a6 x1.toNatClampNeg) h2
set_option maxRecDepth 100000 in
set_option maxHeartbeats 4000000 in
theorem t_X12_status {Γ : gS} {d : Nat} (hd : 1 ≤ d) {x0 : Nat} {x1 : Int32} {h : aH} {r : Int32} {h' : aH} (H : f_X12_status x0 x1 h = some (r, h')) : Mx Γ gX12_status d [.ref x0, .int x1] h (some (.int r)) h' := by
  refine Mx.of (by decide +kernel) (Nat.le_of_ble_eq_true rfl) ?_
  unfold f_X12_status at H
  show Ex Γ gX12_status d 0 [(0, .ref x0), (1, .int x1)] [] h (some (.int r)) h'
  obtain ⟨d, rfl⟩ : ∃ e, d = e + 1 := ⟨d - 1, by omega⟩
  refine x_iload_n dX12_status_0 rfl 1 rfl ?_
  refine x_i2l dX12_status_1 ?_
  refine x_lconst (v := 0) dX12_status_2 (by decide) ?_
  refine x_ldc2 kc_X12_546 dX12_status_3 ?_
  obtain ⟨v1, h2, hc3, H⟩ := bd_o H
  refine x_callSi (As := [.long x1.toInt64, .long 0, .long 7]) dX12_status_6 mi_X12_isIn lk_X12_268 sm_X12_isIn rfl rfl (Nat.le_of_ble_eq_true rfl) (t_X12_isIn (by omega) hc3) ?_
  refine x_if_eq (tgt := 21) dX12_status_9 (by decide) (fun c4 => ?_) (fun c4 => ?_)
  · replace H := ite_p H c4
    refine x_iconst (v := (-1)) dX12_status_21 (by decide) ?_
    refine Ex.sub [] rfl ?_
    exact t_X12_status_22 hd H
  · replace H := ite_m H c4
    refine x_aload_n dX12_status_12 rfl 0 rfl ?_
    obtain ⟨c5, H⟩ := ko_o H
    obtain ⟨a6, c7, H⟩ := kr_o H
    refine x_getR fr_X12_17 dX12_status_13 c5 rfl c7 ?_
    refine x_iload_n dX12_status_16 rfl 1 rfl ?_
    obtain ⟨n9, c8, H⟩ := ka_o H
    obtain ⟨c10, H⟩ := chk_o H
    refine x_iald dX12_status_17 c8 (inb_in.mp c10) ?_
    refine x_goto (tgt := 22) dX12_status_18 (by decide) ?_
    refine Ex.sub [] rfl ?_
    exact t_X12_status_22 hd H
def b_X12_writesPointer_12 (k12 : Nat → Int32 → aH → Option (Unit × aH)) (x0 : Nat) (x2 : Int32) (h : aH) : Option (Unit × aH) :=
  if 8 ≤ x2 then
    some ((), h)
  else
    ko h x0 11 <|
    bd (f_X12_writes x0 255 h) fun _ h3 =>
    nm (x2 + 1) fun (v5 : Int32) =>
    k12 x0 v5 h3
set_option maxRecDepth 100000 in
set_option maxHeartbeats 4000000 in
theorem tb_X12_writesPointer_12 {Γ : gS} {d : Nat} (hd : 2 ≤ d) {k12 : Nat → Int32 → aH → Option (Unit × aH)} (hk12 : ∀ {x0 : Nat} {x2 : Int32} {h : aH} {r : Unit} {h' : aH}, k12 x0 x2 h = some (r, h') → Ex Γ gX12_writesPointer d 12 [(0, .ref x0), (2, .int x2)] [] h none h') {x0 : Nat} {x2 : Int32} {h : aH} {r : Unit} {h' : aH} (H : b_X12_writesPointer_12 k12 x0 x2 h = some (r, h')) : Ex Γ gX12_writesPointer d 12 [(0, .ref x0), (2, .int x2)] [] h none h' := by
  unfold b_X12_writesPointer_12 at H
  obtain ⟨d, rfl⟩ : ∃ e, d = e + 1 := ⟨d - 1, by omega⟩
  refine x_iload_n dX12_writesPointer_12 rfl 1 rfl ?_
  refine x_bipush (v := 8) dX12_writesPointer_13 (by decide) ?_
  refine x_icmp_ge (tgt := 31) dX12_writesPointer_15 (by decide) (fun c1 => ?_) (fun c1 => ?_)
  · replace H := ite_p H c1
    obtain ⟨-, rfl⟩ := so_1 H
    exact x_vret dX12_writesPointer_31 rfl
  · replace H := ite_m H c1
    refine x_aload_n dX12_writesPointer_18 rfl 0 rfl ?_
    refine x_sipush (v := 255) dX12_writesPointer_19 (by decide) ?_
    obtain ⟨c6, H⟩ := ko_o H
    obtain ⟨v2, h3, hc4, H⟩ := bd_o H
    refine x_callVv (As := [.int 255]) (q := (RX12, TX12, 103)) dX12_writesPointer_22 mi_X12_writes lk_X12_668 im_X12_writes se_X12_writes rfl c6 rfl rfl (Nat.le_of_ble_eq_true rfl) (t_X12_writes (by omega) hc4) ?_
    obtain ⟨v5, ev5, H⟩ := nm_o H
    refine x_iinc (v := v5) (lv' := [(2, .int v5), (0, .ref x0)]) dX12_writesPointer_25 1 rfl (by decide) ev5 rfl ?_
    refine x_goto (tgt := 12) dX12_writesPointer_28 (by decide) ?_
    refine Ex.sub [1, 0] rfl ?_
    exact hk12 H
def f_X12_writesPointer_12 : Nat → Nat → Int32 → aH → Option (Unit × aH)
  | 0 => fun _ _ _ => none
  | n + 1 => b_X12_writesPointer_12 (f_X12_writesPointer_12 n)
set_option maxRecDepth 100000 in
set_option maxHeartbeats 4000000 in
theorem t_X12_writesPointer_12 {Γ : gS} {d : Nat} (hd : 2 ≤ d) (n : Nat) : ∀ {x0 : Nat} {x2 : Int32} {h : aH} {r : Unit} {h' : aH}, f_X12_writesPointer_12 n x0 x2 h = some (r, h') → Ex Γ gX12_writesPointer d 12 [(0, .ref x0), (2, .int x2)] [] h none h' := by
  induction n with
  | zero => intro x0 x2 h r h' H; cases H
  | succ n ih => intro x0 x2 h r h' H; exact tb_X12_writesPointer_12 hd ih H
def b_X12_writesPointer_56 (k56 : Nat → Int32 → Int32 → aH → Option (Unit × aH)) (x0 : Nat) (x1 : Int32) (x2 : Int32) (h : aH) : Option (Unit × aH) :=
  if 6 < x2 then
    some ((), h)
  else
    ko h x0 11 <|
    kr (hR h x0 47) fun a9 =>
    ka h a9 .int fun n12 =>
    chk (inb (x1 + x2) n12 = true) <|
    bd (f_X12_writes x0 (hI h a9 (x1 + x2 : Int32).toNatClampNeg) h) fun _ h15 =>
    nm (x2 + 1) fun (v17 : Int32) =>
    k56 x0 x1 v17 h15
set_option maxRecDepth 100000 in
set_option maxHeartbeats 4000000 in
theorem tb_X12_writesPointer_56 {Γ : gS} {d : Nat} (hd : 2 ≤ d) {k56 : Nat → Int32 → Int32 → aH → Option (Unit × aH)} (hk56 : ∀ {x0 : Nat} {x1 : Int32} {x2 : Int32} {h : aH} {r : Unit} {h' : aH}, k56 x0 x1 x2 h = some (r, h') → Ex Γ gX12_writesPointer d 56 [(0, .ref x0), (1, .int x1), (2, .int x2)] [] h none h') {x0 : Nat} {x1 : Int32} {x2 : Int32} {h : aH} {r : Unit} {h' : aH} (H : b_X12_writesPointer_56 k56 x0 x1 x2 h = some (r, h')) : Ex Γ gX12_writesPointer d 56 [(0, .ref x0), (1, .int x1), (2, .int x2)] [] h none h' := by
  unfold b_X12_writesPointer_56 at H
  obtain ⟨d, rfl⟩ : ∃ e, d = e + 1 := ⟨d - 1, by omega⟩
  refine x_iload_n dX12_writesPointer_56 rfl 2 rfl ?_
  refine x_bipush (v := 6) dX12_writesPointer_57 (by decide) ?_
  refine x_icmp_gt (tgt := 80) dX12_writesPointer_59 (by decide) (fun c7 => ?_) (fun c7 => ?_)
  · replace H := ite_p H c7
    obtain ⟨-, rfl⟩ := so_1 H
    exact x_vret dX12_writesPointer_80 rfl
  · replace H := ite_m H c7
    refine x_aload_n dX12_writesPointer_62 rfl 0 rfl ?_
    refine x_aload_n dX12_writesPointer_63 rfl 0 rfl ?_
    obtain ⟨c8, H⟩ := ko_o H
    obtain ⟨a9, c10, H⟩ := kr_o H
    refine x_getR fr_X12_115 dX12_writesPointer_64 c8 rfl c10 ?_
    refine x_iload_n dX12_writesPointer_67 rfl 1 rfl ?_
    refine x_iload_n dX12_writesPointer_68 rfl 2 rfl ?_
    refine x_iadd dX12_writesPointer_69 ?_
    obtain ⟨n12, c11, H⟩ := ka_o H
    obtain ⟨c13, H⟩ := chk_o H
    refine x_iald dX12_writesPointer_70 c11 (inb_in.mp c13) ?_
    obtain ⟨v14, h15, hc16, H⟩ := bd_o H
    refine x_callVv (As := [.int (hI h a9 (x1 + x2 : Int32).toNatClampNeg)]) (q := (RX12, TX12, 103)) dX12_writesPointer_71 mi_X12_writes lk_X12_668 im_X12_writes se_X12_writes rfl c8 rfl rfl (Nat.le_of_ble_eq_true rfl) (t_X12_writes (by omega) hc16) ?_
    obtain ⟨v17, ev17, H⟩ := nm_o H
    refine x_iinc (v := v17) (lv' := [(2, .int v17), (0, .ref x0), (1, .int x1)]) dX12_writesPointer_74 2 rfl (by decide) ev17 rfl ?_
    refine x_goto (tgt := 56) dX12_writesPointer_77 (by decide) ?_
    refine Ex.sub [1, 2, 0] rfl ?_
    exact hk56 H
def f_X12_writesPointer_56 : Nat → Nat → Int32 → Int32 → aH → Option (Unit × aH)
  | 0 => fun _ _ _ _ => none
  | n + 1 => b_X12_writesPointer_56 (f_X12_writesPointer_56 n)
set_option maxRecDepth 100000 in
set_option maxHeartbeats 4000000 in
theorem t_X12_writesPointer_56 {Γ : gS} {d : Nat} (hd : 2 ≤ d) (n : Nat) : ∀ {x0 : Nat} {x1 : Int32} {x2 : Int32} {h : aH} {r : Unit} {h' : aH}, f_X12_writesPointer_56 n x0 x1 x2 h = some (r, h') → Ex Γ gX12_writesPointer d 56 [(0, .ref x0), (1, .int x1), (2, .int x2)] [] h none h' := by
  induction n with
  | zero => intro x0 x1 x2 h r h' H; cases H
  | succ n ih => intro x0 x1 x2 h r h' H; exact tb_X12_writesPointer_56 hd ih H
def f_X12_writesPointer (x0 : Nat) (x1 : Int32) (h : aH) : Option (Unit × aH) :=
  ko h x0 11 <|
  kr (hR h x0 47) fun a19 =>
  ka h a19 .int fun n22 =>
  chk (inb x1 n22 = true) <|
  if (hI h a19 x1.toNatClampNeg) = (-1) then
    f_X12_writesPointer_12 FU x0 0 h
  else
    bd (f_X12_writes x0 (hI h a19 x1.toNatClampNeg) h) fun _ h26 =>
    ko h26 x0 11 <|
    kr (hR h26 x0 47) fun a29 =>
    ka h26 a29 .int fun n32 =>
    chk (inb (x1 + 1) n32 = true) <|
    bd (f_X12_writesTwo x0 (hI h26 a29 (x1 + 1 : Int32).toNatClampNeg) h26) fun _ h35 =>
    f_X12_writesPointer_56 FU x0 x1 2 h35
set_option maxRecDepth 100000 in
set_option maxHeartbeats 4000000 in
theorem t_X12_writesPointer {Γ : gS} {d : Nat} (hd : 2 ≤ d) {x0 : Nat} {x1 : Int32} {h : aH} {r : Unit} {h' : aH} (H : f_X12_writesPointer x0 x1 h = some (r, h')) : Mx Γ gX12_writesPointer d [.ref x0, .int x1] h none h' := by
  refine Mx.of (by decide +kernel) (Nat.le_of_ble_eq_true rfl) ?_
  unfold f_X12_writesPointer at H
  show Ex Γ gX12_writesPointer d 0 [(0, .ref x0), (1, .int x1)] [] h none h'
  obtain ⟨d, rfl⟩ : ∃ e, d = e + 1 := ⟨d - 1, by omega⟩
  refine x_aload_n dX12_writesPointer_0 rfl 0 rfl ?_
  obtain ⟨c18, H⟩ := ko_o H
  obtain ⟨a19, c20, H⟩ := kr_o H
  refine x_getR fr_X12_115 dX12_writesPointer_1 c18 rfl c20 ?_
  refine x_iload_n dX12_writesPointer_4 rfl 1 rfl ?_
  obtain ⟨n22, c21, H⟩ := ka_o H
  obtain ⟨c23, H⟩ := chk_o H
  refine x_iald dX12_writesPointer_5 c21 (inb_in.mp c23) ?_
  refine x_iconst (v := (-1)) dX12_writesPointer_6 (by decide) ?_
  refine x_icmp_ne (tgt := 32) dX12_writesPointer_7 (by decide) (fun c24 => ?_) (fun c24 => ?_)
  · replace H := ite_m H c24
    refine x_aload_n dX12_writesPointer_32 rfl 0 rfl ?_
    refine x_aload_n dX12_writesPointer_33 rfl 0 rfl ?_
    refine x_getR fr_X12_115 dX12_writesPointer_34 c18 rfl c20 ?_
    refine x_iload_n dX12_writesPointer_37 rfl 1 rfl ?_
    refine x_iald dX12_writesPointer_38 c21 (inb_in.mp c23) ?_
    obtain ⟨v25, h26, hc27, H⟩ := bd_o H
    refine x_callVv (As := [.int (hI h a19 x1.toNatClampNeg)]) (q := (RX12, TX12, 103)) dX12_writesPointer_39 mi_X12_writes lk_X12_668 im_X12_writes se_X12_writes rfl c18 rfl rfl (Nat.le_of_ble_eq_true rfl) (t_X12_writes (by omega) hc27) ?_
    refine x_aload_n dX12_writesPointer_42 rfl 0 rfl ?_
    refine x_aload_n dX12_writesPointer_43 rfl 0 rfl ?_
    obtain ⟨c28, H⟩ := ko_o H
    obtain ⟨a29, c30, H⟩ := kr_o H
    refine x_getR fr_X12_115 dX12_writesPointer_44 c28 rfl c30 ?_
    refine x_iload_n dX12_writesPointer_47 rfl 1 rfl ?_
    refine x_iconst (v := 1) dX12_writesPointer_48 (by decide) ?_
    refine x_iadd dX12_writesPointer_49 ?_
    obtain ⟨n32, c31, H⟩ := ka_o H
    obtain ⟨c33, H⟩ := chk_o H
    refine x_iald dX12_writesPointer_50 c31 (inb_in.mp c33) ?_
    obtain ⟨v34, h35, hc36, H⟩ := bd_o H
    refine x_callVv (As := [.int (hI h26 a29 (x1 + 1 : Int32).toNatClampNeg)]) (q := (RX12, TX12, 103)) dX12_writesPointer_51 mi_X12_writesTwo lk_X12_671 im_X12_writesTwo se_X12_writesTwo rfl c28 rfl rfl (Nat.le_of_ble_eq_true rfl) (t_X12_writesTwo (by omega) hc36) ?_
    refine x_iconst (v := 2) dX12_writesPointer_54 (by decide) ?_
    refine x_istore_n (lv' := [(2, .int 2), (0, .ref x0), (1, .int x1)]) dX12_writesPointer_55 rfl (by decide) rfl rfl ?_
    refine Ex.sub [1, 2, 0] rfl ?_
    exact t_X12_writesPointer_56 hd FU H
  · replace H := ite_p H c24
    refine x_iconst (v := 0) dX12_writesPointer_10 (by decide) ?_
    refine x_istore_n (lv' := [(2, .int 0), (0, .ref x0), (1, .int x1)]) dX12_writesPointer_11 rfl (by decide) rfl rfl ?_
    refine Ex.sub [1, 0] rfl ?_
    exact t_X12_writesPointer_12 hd FU H
def b_X12_image_53 (k53 : Nat → Int32 → aH → Option (Int32 × aH)) (x0 : Nat) (x1 : Int32) (h : aH) : Option (Int32 × aH) :=
  ko h x0 11 <|
  bd (f_X12_objectMany x0 h) fun v1 h2 =>
  if (3 * v1) ≤ x1 then
    ko h2 x0 11 <|
    kr (hR h2 x0 101) fun a6 =>
    bd (f_X12_checked a6 (hI h2 x0 102) h2) fun v8 h9 =>
    ko h9 x0 11 <|
    bd (f_X12_writes x0 v8 h9) fun _ h12 =>
    ko h12 x0 11 <|
    some (hI h12 x0 102, h12)
  else
    ko h2 x0 11 <|
    kr (hR h2 x0 47) fun a17 =>
    ka h2 a17 .int fun n20 =>
    chk (inb (257 + x1) n20 = true) <|
    bd (f_X12_writesTwo x0 (hI h2 a17 (257 + x1 : Int32).toNatClampNeg) h2) fun _ h23 =>
    nm (x1 + 1) fun (v25 : Int32) =>
    k53 x0 v25 h23
set_option maxRecDepth 100000 in
set_option maxHeartbeats 4000000 in
theorem tb_X12_image_53 {Γ : gS} {d : Nat} (hd : 3 ≤ d) {k53 : Nat → Int32 → aH → Option (Int32 × aH)} (hk53 : ∀ {x0 : Nat} {x1 : Int32} {h : aH} {r : Int32} {h' : aH}, k53 x0 x1 h = some (r, h') → Ex Γ gX12_image d 53 [(0, .ref x0), (1, .int x1)] [] h (some (.int r)) h') {x0 : Nat} {x1 : Int32} {h : aH} {r : Int32} {h' : aH} (H : b_X12_image_53 k53 x0 x1 h = some (r, h')) : Ex Γ gX12_image d 53 [(0, .ref x0), (1, .int x1)] [] h (some (.int r)) h' := by
  unfold b_X12_image_53 at H
  obtain ⟨d, rfl⟩ : ∃ e, d = e + 1 := ⟨d - 1, by omega⟩
  refine x_iload_n dX12_image_53 rfl 1 rfl ?_
  refine x_iconst (v := 3) dX12_image_54 (by decide) ?_
  refine x_aload_n dX12_image_55 rfl 0 rfl ?_
  obtain ⟨c26, H⟩ := ko_o H
  obtain ⟨v1, h2, hc3, H⟩ := bd_o H
  refine x_callVi (As := []) (q := (RX12, TX12, 103)) dX12_image_56 mi_X12_objectMany lk_X12_425 im_X12_objectMany se_X12_objectMany rfl c26 rfl rfl (Nat.le_of_ble_eq_true rfl) (t_X12_objectMany (by omega) hc3) ?_
  refine x_imul dX12_image_59 ?_
  refine x_icmp_ge (tgt := 83) dX12_image_60 (by decide) (fun c4 => ?_) (fun c4 => ?_)
  · replace H := ite_p H c4
    refine x_aload_n dX12_image_83 rfl 0 rfl ?_
    refine x_aload_n dX12_image_84 rfl 0 rfl ?_
    obtain ⟨c5, H⟩ := ko_o H
    obtain ⟨a6, c7, H⟩ := kr_o H
    refine x_getR fr_X12_219 dX12_image_85 c5 rfl c7 ?_
    refine x_aload_n dX12_image_88 rfl 0 rfl ?_
    refine x_getI fr_X12_665 dX12_image_89 c5 rfl ?_
    obtain ⟨v8, h9, hc10, H⟩ := bd_o H
    refine x_callSi (As := [.ref a6, .int (hI h2 x0 102)]) dX12_image_92 mi_X12_checked lk_X12_677 sm_X12_checked rfl rfl (Nat.le_of_ble_eq_true rfl) (t_X12_checked (by omega) hc10) ?_
    obtain ⟨c15, H⟩ := ko_o H
    obtain ⟨v11, h12, hc13, H⟩ := bd_o H
    refine x_callVv (As := [.int v8]) (q := (RX12, TX12, 103)) dX12_image_95 mi_X12_writes lk_X12_668 im_X12_writes se_X12_writes rfl c15 rfl rfl (Nat.le_of_ble_eq_true rfl) (t_X12_writes (by omega) hc13) ?_
    refine x_aload_n dX12_image_98 rfl 0 rfl ?_
    obtain ⟨c14, H⟩ := ko_o H
    refine x_getI fr_X12_665 dX12_image_99 c14 rfl ?_
    obtain ⟨rfl, rfl⟩ := so_1 H
    exact x_iret dX12_image_102 rfl rfl
  · replace H := ite_m H c4
    refine x_aload_n dX12_image_63 rfl 0 rfl ?_
    refine x_aload_n dX12_image_64 rfl 0 rfl ?_
    obtain ⟨c16, H⟩ := ko_o H
    obtain ⟨a17, c18, H⟩ := kr_o H
    refine x_getR fr_X12_115 dX12_image_65 c16 rfl c18 ?_
    refine x_sipush (v := 257) dX12_image_68 (by decide) ?_
    refine x_iload_n dX12_image_71 rfl 1 rfl ?_
    refine x_iadd dX12_image_72 ?_
    obtain ⟨n20, c19, H⟩ := ka_o H
    obtain ⟨c21, H⟩ := chk_o H
    refine x_iald dX12_image_73 c19 (inb_in.mp c21) ?_
    obtain ⟨v22, h23, hc24, H⟩ := bd_o H
    refine x_callVv (As := [.int (hI h2 a17 (257 + x1 : Int32).toNatClampNeg)]) (q := (RX12, TX12, 103)) dX12_image_74 mi_X12_writesTwo lk_X12_671 im_X12_writesTwo se_X12_writesTwo rfl c16 rfl rfl (Nat.le_of_ble_eq_true rfl) (t_X12_writesTwo (by omega) hc24) ?_
    obtain ⟨v25, ev25, H⟩ := nm_o H
    refine x_iinc (v := v25) (lv' := [(1, .int v25), (0, .ref x0)]) dX12_image_77 1 rfl (by decide) ev25 rfl ?_
    refine x_goto (tgt := 53) dX12_image_80 (by decide) ?_
    refine Ex.sub [1, 0] rfl ?_
    exact hk53 H
def f_X12_image_53 : Nat → Nat → Int32 → aH → Option (Int32 × aH)
  | 0 => fun _ _ _ => none
  | n + 1 => b_X12_image_53 (f_X12_image_53 n)
set_option maxRecDepth 100000 in
set_option maxHeartbeats 4000000 in
theorem t_X12_image_53 {Γ : gS} {d : Nat} (hd : 3 ≤ d) (n : Nat) : ∀ {x0 : Nat} {x1 : Int32} {h : aH} {r : Int32} {h' : aH}, f_X12_image_53 n x0 x1 h = some (r, h') → Ex Γ gX12_image d 53 [(0, .ref x0), (1, .int x1)] [] h (some (.int r)) h' := by
  induction n with
  | zero => intro x0 x1 h r h' H; cases H
  | succ n ih => intro x0 x1 h r h' H; exact tb_X12_image_53 hd ih H
def b_X12_image_16 (k16 : Nat → Int32 → aH → Option (Int32 × aH)) (x0 : Nat) (x1 : Int32) (h : aH) : Option (Int32 × aH) :=
  ko h x0 11 <|
  bd (f_X12_shelfMany x0 h) fun v27 h28 =>
  if (16 + (4 * v27)) ≤ x1 then
    ko h28 x0 11 <|
    bd (f_X12_objectMany x0 h28) fun v31 h32 =>
    ko h32 x0 11 <|
    bd (f_X12_writes x0 v31 h32) fun _ h35 =>
    f_X12_image_53 FU x0 0 h35
  else
    ko h28 x0 11 <|
    bd (f_X12_writesPointer x0 (8 * x1) h28) fun _ h40 =>
    nm (x1 + 1) fun (v42 : Int32) =>
    k16 x0 v42 h40
set_option maxRecDepth 100000 in
set_option maxHeartbeats 4000000 in
theorem tb_X12_image_16 {Γ : gS} {d : Nat} (hd : 3 ≤ d) {k16 : Nat → Int32 → aH → Option (Int32 × aH)} (hk16 : ∀ {x0 : Nat} {x1 : Int32} {h : aH} {r : Int32} {h' : aH}, k16 x0 x1 h = some (r, h') → Ex Γ gX12_image d 16 [(0, .ref x0), (1, .int x1)] [] h (some (.int r)) h') {x0 : Nat} {x1 : Int32} {h : aH} {r : Int32} {h' : aH} (H : b_X12_image_16 k16 x0 x1 h = some (r, h')) : Ex Γ gX12_image d 16 [(0, .ref x0), (1, .int x1)] [] h (some (.int r)) h' := by
  unfold b_X12_image_16 at H
  obtain ⟨d, rfl⟩ : ∃ e, d = e + 1 := ⟨d - 1, by omega⟩
  refine x_iload_n dX12_image_16 rfl 1 rfl ?_
  refine x_bipush (v := 16) dX12_image_17 (by decide) ?_
  refine x_iconst (v := 4) dX12_image_19 (by decide) ?_
  refine x_aload_n dX12_image_20 rfl 0 rfl ?_
  obtain ⟨c44, H⟩ := ko_o H
  obtain ⟨v27, h28, hc29, H⟩ := bd_o H
  refine x_callVi (As := []) (q := (RX12, TX12, 103)) dX12_image_21 mi_X12_shelfMany lk_X12_370 im_X12_shelfMany se_X12_shelfMany rfl c44 rfl rfl (Nat.le_of_ble_eq_true rfl) (t_X12_shelfMany (by omega) hc29) ?_
  refine x_imul dX12_image_24 ?_
  refine x_iadd dX12_image_25 ?_
  refine x_icmp_ge (tgt := 43) dX12_image_26 (by decide) (fun c30 => ?_) (fun c30 => ?_)
  · replace H := ite_p H c30
    refine x_aload_n dX12_image_43 rfl 0 rfl ?_
    refine x_aload_n dX12_image_44 rfl 0 rfl ?_
    obtain ⟨c38, H⟩ := ko_o H
    obtain ⟨v31, h32, hc33, H⟩ := bd_o H
    refine x_callVi (As := []) (q := (RX12, TX12, 103)) dX12_image_45 mi_X12_objectMany lk_X12_425 im_X12_objectMany se_X12_objectMany rfl c38 rfl rfl (Nat.le_of_ble_eq_true rfl) (t_X12_objectMany (by omega) hc33) ?_
    obtain ⟨c37, H⟩ := ko_o H
    obtain ⟨v34, h35, hc36, H⟩ := bd_o H
    refine x_callVv (As := [.int v31]) (q := (RX12, TX12, 103)) dX12_image_48 mi_X12_writes lk_X12_668 im_X12_writes se_X12_writes rfl c37 rfl rfl (Nat.le_of_ble_eq_true rfl) (t_X12_writes (by omega) hc36) ?_
    refine x_iconst (v := 0) dX12_image_51 (by decide) ?_
    refine x_istore_n (lv' := [(1, .int 0), (0, .ref x0)]) dX12_image_52 rfl (by decide) rfl rfl ?_
    refine Ex.sub [1, 0] rfl ?_
    exact t_X12_image_53 hd FU H
  · replace H := ite_m H c30
    refine x_aload_n dX12_image_29 rfl 0 rfl ?_
    refine x_bipush (v := 8) dX12_image_30 (by decide) ?_
    refine x_iload_n dX12_image_32 rfl 1 rfl ?_
    refine x_imul dX12_image_33 ?_
    obtain ⟨c43, H⟩ := ko_o H
    obtain ⟨v39, h40, hc41, H⟩ := bd_o H
    refine x_callVv (As := [.int (8 * x1)]) (q := (RX12, TX12, 103)) dX12_image_34 mi_X12_writesPointer lk_X12_674 im_X12_writesPointer se_X12_writesPointer rfl c43 rfl rfl (Nat.le_of_ble_eq_true rfl) (t_X12_writesPointer (by omega) hc41) ?_
    obtain ⟨v42, ev42, H⟩ := nm_o H
    refine x_iinc (v := v42) (lv' := [(1, .int v42), (0, .ref x0)]) dX12_image_37 1 rfl (by decide) ev42 rfl ?_
    refine x_goto (tgt := 16) dX12_image_40 (by decide) ?_
    refine Ex.sub [1, 0] rfl ?_
    exact hk16 H
def f_X12_image_16 : Nat → Nat → Int32 → aH → Option (Int32 × aH)
  | 0 => fun _ _ _ => none
  | n + 1 => b_X12_image_16 (f_X12_image_16 n)
set_option maxRecDepth 100000 in
set_option maxHeartbeats 4000000 in
theorem t_X12_image_16 {Γ : gS} {d : Nat} (hd : 3 ≤ d) (n : Nat) : ∀ {x0 : Nat} {x1 : Int32} {h : aH} {r : Int32} {h' : aH}, f_X12_image_16 n x0 x1 h = some (r, h') → Ex Γ gX12_image d 16 [(0, .ref x0), (1, .int x1)] [] h (some (.int r)) h' := by
  induction n with
  | zero => intro x0 x1 h r h' H; cases H
  | succ n ih => intro x0 x1 h r h' H; exact tb_X12_image_16 hd ih H
def f_X12_image (x0 : Nat) (h : aH) : Option (Int32 × aH) :=
  ko h x0 11 <|
  if (hI h x0 45) = 0 then
    some ((-1), h)
  else
    f_X12_image_16 FU x0 0 (sI h x0 102 0)
set_option maxRecDepth 100000 in
set_option maxHeartbeats 4000000 in
theorem t_X12_image {Γ : gS} {d : Nat} (hd : 3 ≤ d) {x0 : Nat} {h : aH} {r : Int32} {h' : aH} (H : f_X12_image x0 h = some (r, h')) : Mx Γ gX12_image d [.ref x0] h (some (.int r)) h' := by
  refine Mx.of (by decide +kernel) (Nat.le_of_ble_eq_true rfl) ?_
  unfold f_X12_image at H
  show Ex Γ gX12_image d 0 [(0, .ref x0)] [] h (some (.int r)) h'
  obtain ⟨d, rfl⟩ : ∃ e, d = e + 1 := ⟨d - 1, by omega⟩
  refine x_aload_n dX12_image_0 rfl 0 rfl ?_
  obtain ⟨c45, H⟩ := ko_o H
  refine x_getI fr_X12_352 dX12_image_1 c45 rfl ?_
  refine x_if_ne (tgt := 9) dX12_image_4 (by decide) (fun c46 => ?_) (fun c46 => ?_)
  · replace H := ite_m H c46
    refine x_aload_n dX12_image_9 rfl 0 rfl ?_
    refine x_iconst (v := 0) dX12_image_10 (by decide) ?_
    refine x_putI fl_X12_665 dX12_image_11 c45 (fun e => by cases e) rfl ?_
    refine x_iconst (v := 0) dX12_image_14 (by decide) ?_
    refine x_istore_n (lv' := [(1, .int 0), (0, .ref x0)]) dX12_image_15 rfl (by decide) rfl rfl ?_
    refine Ex.sub [1, 0] rfl ?_
    exact t_X12_image_16 hd FU H
  · replace H := ite_p H c46
    refine x_iconst (v := (-1)) dX12_image_7 (by decide) ?_
    obtain ⟨rfl, rfl⟩ := so_1 H
    exact x_iret dX12_image_8 rfl rfl
def b_X12_isEmptyTold_2 (k2 : Nat → Int32 → Int32 → aH → Option (Int32 × aH)) (x0 : Nat) (x1 : Int32) (x2 : Int32) (h : aH) : Option (Int32 × aH) :=
  if 8 ≤ x2 then
    some (1, h)
  else
    ko h x0 11 <|
    kr (hR h x0 0) fun a3 =>
    ka h a3 .int fun n6 =>
    chk (inb (x1 + x2) n6 = true) <|
    if (hI h a3 (x1 + x2 : Int32).toNatClampNeg) = 255 then
      nm (x2 + 1) fun (v9 : Int32) =>
      k2 x0 x1 v9 h
    else
      some (0, h)
set_option maxRecDepth 100000 in
set_option maxHeartbeats 4000000 in
theorem tb_X12_isEmptyTold_2 {Γ : gS} {d : Nat} (hd : 0 ≤ d) {k2 : Nat → Int32 → Int32 → aH → Option (Int32 × aH)} (hk2 : ∀ {x0 : Nat} {x1 : Int32} {x2 : Int32} {h : aH} {r : Int32} {h' : aH}, k2 x0 x1 x2 h = some (r, h') → Ex Γ gX12_isEmptyTold d 2 [(0, .ref x0), (1, .int x1), (2, .int x2)] [] h (some (.int r)) h') {x0 : Nat} {x1 : Int32} {x2 : Int32} {h : aH} {r : Int32} {h' : aH} (H : b_X12_isEmptyTold_2 k2 x0 x1 x2 h = some (r, h')) : Ex Γ gX12_isEmptyTold d 2 [(0, .ref x0), (1, .int x1), (2, .int x2)] [] h (some (.int r)) h' := by
  unfold b_X12_isEmptyTold_2 at H
  refine x_iload_n dX12_isEmptyTold_2 rfl 2 rfl ?_
  refine x_bipush (v := 8) dX12_isEmptyTold_3 (by decide) ?_
  refine x_icmp_ge (tgt := 30) dX12_isEmptyTold_5 (by decide) (fun c1 => ?_) (fun c1 => ?_)
  · replace H := ite_p H c1
    refine x_iconst (v := 1) dX12_isEmptyTold_30 (by decide) ?_
    obtain ⟨rfl, rfl⟩ := so_1 H
    exact x_iret dX12_isEmptyTold_31 rfl (by decide)
  · replace H := ite_m H c1
    refine x_aload_n dX12_isEmptyTold_8 rfl 0 rfl ?_
    obtain ⟨c2, H⟩ := ko_o H
    obtain ⟨a3, c4, H⟩ := kr_o H
    refine x_getR fr_X12_7 dX12_isEmptyTold_9 c2 rfl c4 ?_
    refine x_iload_n dX12_isEmptyTold_12 rfl 1 rfl ?_
    refine x_iload_n dX12_isEmptyTold_13 rfl 2 rfl ?_
    refine x_iadd dX12_isEmptyTold_14 ?_
    obtain ⟨n6, c5, H⟩ := ka_o H
    obtain ⟨c7, H⟩ := chk_o H
    refine x_iald dX12_isEmptyTold_15 c5 (inb_in.mp c7) ?_
    refine x_sipush (v := 255) dX12_isEmptyTold_16 (by decide) ?_
    refine x_icmp_eq (tgt := 24) dX12_isEmptyTold_19 (by decide) (fun c8 => ?_) (fun c8 => ?_)
    · replace H := ite_p H c8
      obtain ⟨v9, ev9, H⟩ := nm_o H
      refine x_iinc (v := v9) (lv' := [(2, .int v9), (0, .ref x0), (1, .int x1)]) dX12_isEmptyTold_24 2 rfl (by decide) ev9 rfl ?_
      refine x_goto (tgt := 2) dX12_isEmptyTold_27 (by decide) ?_
      refine Ex.sub [1, 2, 0] rfl ?_
      exact hk2 H
    · replace H := ite_m H c8
      refine x_iconst (v := 0) dX12_isEmptyTold_22 (by decide) ?_
      obtain ⟨rfl, rfl⟩ := so_1 H
      exact x_iret dX12_isEmptyTold_23 rfl (by decide)
def f_X12_isEmptyTold_2 : Nat → Nat → Int32 → Int32 → aH → Option (Int32 × aH)
  | 0 => fun _ _ _ _ => none
  | n + 1 => b_X12_isEmptyTold_2 (f_X12_isEmptyTold_2 n)
set_option maxRecDepth 100000 in
set_option maxHeartbeats 4000000 in
theorem t_X12_isEmptyTold_2 {Γ : gS} {d : Nat} (hd : 0 ≤ d) (n : Nat) : ∀ {x0 : Nat} {x1 : Int32} {x2 : Int32} {h : aH} {r : Int32} {h' : aH}, f_X12_isEmptyTold_2 n x0 x1 x2 h = some (r, h') → Ex Γ gX12_isEmptyTold d 2 [(0, .ref x0), (1, .int x1), (2, .int x2)] [] h (some (.int r)) h' := by
  induction n with
  | zero => intro x0 x1 x2 h r h' H; cases H
  | succ n ih => intro x0 x1 x2 h r h' H; exact tb_X12_isEmptyTold_2 hd ih H
def f_X12_isEmptyTold (x0 : Nat) (x1 : Int32) (h : aH) : Option (Int32 × aH) :=
  f_X12_isEmptyTold_2 FU x0 x1 0 h
set_option maxRecDepth 100000 in
set_option maxHeartbeats 4000000 in
theorem t_X12_isEmptyTold {Γ : gS} {d : Nat} (hd : 0 ≤ d) {x0 : Nat} {x1 : Int32} {h : aH} {r : Int32} {h' : aH} (H : f_X12_isEmptyTold x0 x1 h = some (r, h')) : Mx Γ gX12_isEmptyTold d [.ref x0, .int x1] h (some (.int r)) h' := by
  refine Mx.of (by decide +kernel) (Nat.le_of_ble_eq_true rfl) ?_
  unfold f_X12_isEmptyTold at H
  show Ex Γ gX12_isEmptyTold d 0 [(0, .ref x0), (1, .int x1)] [] h (some (.int r)) h'
  refine x_iconst (v := 0) dX12_isEmptyTold_0 (by decide) ?_
  refine x_istore_n (lv' := [(2, .int 0), (0, .ref x0), (1, .int x1)]) dX12_isEmptyTold_1 rfl (by decide) rfl rfl ?_
  refine Ex.sub [1, 2, 0] rfl ?_
  exact t_X12_isEmptyTold_2 hd FU H
def f_X12_isPointerTold_95 (h : aH) : Option (Int32 × aH) :=
  some (0, h)
set_option maxRecDepth 100000 in
set_option maxHeartbeats 4000000 in
theorem t_X12_isPointerTold_95 {Γ : gS} {d : Nat} (hd : 2 ≤ d) {h : aH} {r : Int32} {h' : aH} (H : f_X12_isPointerTold_95 h = some (r, h')) : Ex Γ gX12_isPointerTold d 95 [] [] h (some (.int r)) h' := by
  unfold f_X12_isPointerTold_95 at H
  obtain ⟨d, rfl⟩ : ∃ e, d = e + 1 := ⟨d - 1, by omega⟩
  refine x_iconst (v := 0) dX12_isPointerTold_95 (by decide) ?_
  obtain ⟨rfl, rfl⟩ := so_1 H
  exact x_iret dX12_isPointerTold_96 rfl (by decide)
def f_X12_isPointerTold_127 (s0 : Int32) (h : aH) : Option (Int32 × aH) :=
  chk (narrow .boolean (.int s0) = .int s0) <|
  some (s0, h)
set_option maxRecDepth 100000 in
set_option maxHeartbeats 4000000 in
theorem t_X12_isPointerTold_127 {Γ : gS} {d : Nat} (hd : 2 ≤ d) {s0 : Int32} {h : aH} {r : Int32} {h' : aH} (H : f_X12_isPointerTold_127 s0 h = some (r, h')) : Ex Γ gX12_isPointerTold d 127 [] [.int s0] h (some (.int r)) h' := by
  unfold f_X12_isPointerTold_127 at H
  obtain ⟨d, rfl⟩ : ∃ e, d = e + 1 := ⟨d - 1, by omega⟩
  obtain ⟨c1, H⟩ := chk_o H
  obtain ⟨rfl, rfl⟩ := so_1 H
  exact x_iret dX12_isPointerTold_127 rfl c1
def f_X12_isPointerTold_126 (h : aH) : Option (Int32 × aH) :=
  f_X12_isPointerTold_127 0 h
set_option maxRecDepth 100000 in
set_option maxHeartbeats 4000000 in
theorem t_X12_isPointerTold_126 {Γ : gS} {d : Nat} (hd : 2 ≤ d) {h : aH} {r : Int32} {h' : aH} (H : f_X12_isPointerTold_126 h = some (r, h')) : Ex Γ gX12_isPointerTold d 126 [] [] h (some (.int r)) h' := by
  unfold f_X12_isPointerTold_126 at H
  obtain ⟨d, rfl⟩ : ∃ e, d = e + 1 := ⟨d - 1, by omega⟩
  refine x_iconst (v := 0) dX12_isPointerTold_126 (by decide) ?_
  exact t_X12_isPointerTold_127 hd H
def f_X12_isPointerTold (x0 : Nat) (x1 : Int32) (h : aH) : Option (Int32 × aH) :=
  ko h x0 11 <|
  bd (f_X12_mantissa x0 h) fun v2 h3 =>
  nm (1 <<< (v2 &&& 31)) fun (v5 : Int32) =>
  ko h3 x0 11 <|
  kr (hR h3 x0 0) fun a7 =>
  ka h3 a7 .int fun n10 =>
  chk (inb (x1 + 4) n10 = true) <|
  nm (hI h3 a7 (x1 + 4 : Int32).toNatClampNeg) fun (v12 : Int32) =>
  chk (inb (x1 + 5) n10 = true) <|
  nm (hI h3 a7 (x1 + 5 : Int32).toNatClampNeg) fun (v14 : Int32) =>
  chk (inb x1 n10 = true) <|
  if 1 < (hI h3 a7 x1.toNatClampNeg) then
    f_X12_isPointerTold_95 h3
  else
    bd (f_X12_twoAt x0 (x1 + 1) h3) fun v17 h18 =>
    if 4095 < v17 then
      f_X12_isPointerTold_95 h18
    else
      ko h18 x0 11 <|
      kr (hR h18 x0 0) fun a22 =>
      ka h18 a22 .int fun n25 =>
      chk (inb (x1 + 3) n25 = true) <|
      bd (f_X12_mantissa x0 h18) fun v27 h28 =>
      if (13 - v27) < (hI h18 a22 (x1 + 3 : Int32).toNatClampNeg) then
        f_X12_isPointerTold_95 h28
      else
        ko h28 x0 11 <|
        kr (hR h28 x0 0) fun a32 =>
        ka h28 a32 .int fun n35 =>
        chk (inb (x1 + 6) n35 = true) <|
        if 7 < (hI h28 a32 (x1 + 6 : Int32).toNatClampNeg) then
          f_X12_isPointerTold_95 h28
        else
          chk (inb (x1 + 7) n35 = true) <|
          if (hI h28 a32 (x1 + 7 : Int32).toNatClampNeg) ≤ 7 then
            if v5 ≤ v12 then
              f_X12_isPointerTold_126 h28
            else
              if v5 ≤ v14 then
                f_X12_isPointerTold_126 h28
              else
                bd (f_X12_modulo x0 (v14 - v12) h28) fun v42 h43 =>
                if (v5 / 2) < v42 then
                  f_X12_isPointerTold_126 h43
                else
                  f_X12_isPointerTold_127 1 h43
          else
            f_X12_isPointerTold_95 h28
set_option maxRecDepth 100000 in
set_option maxHeartbeats 4000000 in
theorem t_X12_isPointerTold {Γ : gS} {d : Nat} (hd : 2 ≤ d) {x0 : Nat} {x1 : Int32} {h : aH} {r : Int32} {h' : aH} (H : f_X12_isPointerTold x0 x1 h = some (r, h')) : Mx Γ gX12_isPointerTold d [.ref x0, .int x1] h (some (.int r)) h' := by
  refine Mx.of (by decide +kernel) (Nat.le_of_ble_eq_true rfl) ?_
  unfold f_X12_isPointerTold at H
  show Ex Γ gX12_isPointerTold d 0 [(0, .ref x0), (1, .int x1)] [] h (some (.int r)) h'
  obtain ⟨d, rfl⟩ : ∃ e, d = e + 1 := ⟨d - 1, by omega⟩
  refine x_iconst (v := 1) dX12_isPointerTold_0 (by decide) ?_
  refine x_aload_n dX12_isPointerTold_1 rfl 0 rfl ?_
  obtain ⟨c46, H⟩ := ko_o H
  obtain ⟨v2, h3, hc4, H⟩ := bd_o H
  refine x_callVi (As := []) (q := (RX12, TX12, 103)) dX12_isPointerTold_2 mi_X12_mantissa lk_X12_396 im_X12_mantissa se_X12_mantissa rfl c46 rfl rfl (Nat.le_of_ble_eq_true rfl) (t_X12_mantissa (by omega) hc4) ?_
  refine x_ishl dX12_isPointerTold_5 ?_
  obtain ⟨v5, ev5, H⟩ := nm_o H
  refine x_istore_n (lv' := [(2, .int v5), (0, .ref x0), (1, .int x1)]) dX12_isPointerTold_6 rfl (by decide) ev5 rfl ?_
  refine x_aload_n dX12_isPointerTold_7 rfl 1 rfl ?_
  obtain ⟨c6, H⟩ := ko_o H
  obtain ⟨a7, c8, H⟩ := kr_o H
  refine x_getR fr_X12_7 dX12_isPointerTold_8 c6 rfl c8 ?_
  refine x_iload_n dX12_isPointerTold_11 rfl 2 rfl ?_
  refine x_iconst (v := 4) dX12_isPointerTold_12 (by decide) ?_
  refine x_iadd dX12_isPointerTold_13 ?_
  obtain ⟨n10, c9, H⟩ := ka_o H
  obtain ⟨c11, H⟩ := chk_o H
  refine x_iald dX12_isPointerTold_14 c9 (inb_in.mp c11) ?_
  obtain ⟨v12, ev12, H⟩ := nm_o H
  refine x_istore_n (lv' := [(3, .int v12), (2, .int v5), (0, .ref x0), (1, .int x1)]) dX12_isPointerTold_15 rfl (by decide) ev12 rfl ?_
  refine x_aload_n dX12_isPointerTold_16 rfl 2 rfl ?_
  refine x_getR fr_X12_7 dX12_isPointerTold_17 c6 rfl c8 ?_
  refine x_iload_n dX12_isPointerTold_20 rfl 3 rfl ?_
  refine x_iconst (v := 5) dX12_isPointerTold_21 (by decide) ?_
  refine x_iadd dX12_isPointerTold_22 ?_
  obtain ⟨c13, H⟩ := chk_o H
  refine x_iald dX12_isPointerTold_23 c9 (inb_in.mp c13) ?_
  obtain ⟨v14, ev14, H⟩ := nm_o H
  refine x_istore (lv' := [(4, .int v14), (3, .int v12), (2, .int v5), (0, .ref x0), (1, .int x1)]) dX12_isPointerTold_24 (by decide) ev14 rfl ?_
  refine x_aload_n dX12_isPointerTold_26 rfl 3 rfl ?_
  refine x_getR fr_X12_7 dX12_isPointerTold_27 c6 rfl c8 ?_
  refine x_iload_n dX12_isPointerTold_30 rfl 4 rfl ?_
  obtain ⟨c15, H⟩ := chk_o H
  refine x_iald dX12_isPointerTold_31 c9 (inb_in.mp c15) ?_
  refine x_iconst (v := 1) dX12_isPointerTold_32 (by decide) ?_
  refine x_icmp_gt (tgt := 95) dX12_isPointerTold_33 (by decide) (fun c16 => ?_) (fun c16 => ?_)
  · replace H := ite_p H c16
    refine Ex.sub [] rfl ?_
    exact t_X12_isPointerTold_95 hd H
  · replace H := ite_m H c16
    refine x_aload_n dX12_isPointerTold_36 rfl 3 rfl ?_
    refine x_iload_n dX12_isPointerTold_37 rfl 4 rfl ?_
    refine x_iconst (v := 1) dX12_isPointerTold_38 (by decide) ?_
    refine x_iadd dX12_isPointerTold_39 ?_
    obtain ⟨v17, h18, hc19, H⟩ := bd_o H
    refine x_callVi (As := [.int (x1 + 1)]) (q := (RX12, TX12, 103)) dX12_isPointerTold_40 mi_X12_twoAt lk_X12_681 im_X12_twoAt se_X12_twoAt rfl c6 rfl rfl (Nat.le_of_ble_eq_true rfl) (t_X12_twoAt (by omega) hc19) ?_
    refine x_sipush (v := 4095) dX12_isPointerTold_43 (by decide) ?_
    refine x_icmp_gt (tgt := 95) dX12_isPointerTold_46 (by decide) (fun c20 => ?_) (fun c20 => ?_)
    · replace H := ite_p H c20
      refine Ex.sub [] rfl ?_
      exact t_X12_isPointerTold_95 hd H
    · replace H := ite_m H c20
      refine x_aload_n dX12_isPointerTold_49 rfl 3 rfl ?_
      obtain ⟨c21, H⟩ := ko_o H
      obtain ⟨a22, c23, H⟩ := kr_o H
      refine x_getR fr_X12_7 dX12_isPointerTold_50 c21 rfl c23 ?_
      refine x_iload_n dX12_isPointerTold_53 rfl 4 rfl ?_
      refine x_iconst (v := 3) dX12_isPointerTold_54 (by decide) ?_
      refine x_iadd dX12_isPointerTold_55 ?_
      obtain ⟨n25, c24, H⟩ := ka_o H
      obtain ⟨c26, H⟩ := chk_o H
      refine x_iald dX12_isPointerTold_56 c24 (inb_in.mp c26) ?_
      refine x_bipush (v := 13) dX12_isPointerTold_57 (by decide) ?_
      refine x_aload_n dX12_isPointerTold_59 rfl 3 rfl ?_
      obtain ⟨v27, h28, hc29, H⟩ := bd_o H
      refine x_callVi (As := []) (q := (RX12, TX12, 103)) dX12_isPointerTold_60 mi_X12_mantissa lk_X12_396 im_X12_mantissa se_X12_mantissa rfl c21 rfl rfl (Nat.le_of_ble_eq_true rfl) (t_X12_mantissa (by omega) hc29) ?_
      refine x_isub dX12_isPointerTold_63 ?_
      refine x_icmp_gt (tgt := 95) dX12_isPointerTold_64 (by decide) (fun c30 => ?_) (fun c30 => ?_)
      · replace H := ite_p H c30
        refine Ex.sub [] rfl ?_
        exact t_X12_isPointerTold_95 hd H
      · replace H := ite_m H c30
        refine x_aload_n dX12_isPointerTold_67 rfl 3 rfl ?_
        obtain ⟨c31, H⟩ := ko_o H
        obtain ⟨a32, c33, H⟩ := kr_o H
        refine x_getR fr_X12_7 dX12_isPointerTold_68 c31 rfl c33 ?_
        refine x_iload_n dX12_isPointerTold_71 rfl 4 rfl ?_
        refine x_bipush (v := 6) dX12_isPointerTold_72 (by decide) ?_
        refine x_iadd dX12_isPointerTold_74 ?_
        obtain ⟨n35, c34, H⟩ := ka_o H
        obtain ⟨c36, H⟩ := chk_o H
        refine x_iald dX12_isPointerTold_75 c34 (inb_in.mp c36) ?_
        refine x_bipush (v := 7) dX12_isPointerTold_76 (by decide) ?_
        refine x_icmp_gt (tgt := 95) dX12_isPointerTold_78 (by decide) (fun c37 => ?_) (fun c37 => ?_)
        · replace H := ite_p H c37
          refine Ex.sub [] rfl ?_
          exact t_X12_isPointerTold_95 hd H
        · replace H := ite_m H c37
          refine x_aload_n dX12_isPointerTold_81 rfl 3 rfl ?_
          refine x_getR fr_X12_7 dX12_isPointerTold_82 c31 rfl c33 ?_
          refine x_iload_n dX12_isPointerTold_85 rfl 4 rfl ?_
          refine x_bipush (v := 7) dX12_isPointerTold_86 (by decide) ?_
          refine x_iadd dX12_isPointerTold_88 ?_
          obtain ⟨c38, H⟩ := chk_o H
          refine x_iald dX12_isPointerTold_89 c34 (inb_in.mp c38) ?_
          refine x_bipush (v := 7) dX12_isPointerTold_90 (by decide) ?_
          refine x_icmp_le (tgt := 97) dX12_isPointerTold_92 (by decide) (fun c39 => ?_) (fun c39 => ?_)
          · replace H := ite_p H c39
            refine x_iload_n dX12_isPointerTold_97 rfl 1 rfl ?_
            refine x_iload_n dX12_isPointerTold_98 rfl 2 rfl ?_
            refine x_icmp_ge (tgt := 126) dX12_isPointerTold_99 (by decide) (fun c40 => ?_) (fun c40 => ?_)
            · replace H := ite_p H c40
              refine Ex.sub [] rfl ?_
              exact t_X12_isPointerTold_126 hd H
            · replace H := ite_m H c40
              refine x_iload dX12_isPointerTold_102 0 rfl ?_
              refine x_iload_n dX12_isPointerTold_104 rfl 2 rfl ?_
              refine x_icmp_ge (tgt := 126) dX12_isPointerTold_105 (by decide) (fun c41 => ?_) (fun c41 => ?_)
              · replace H := ite_p H c41
                refine Ex.sub [] rfl ?_
                exact t_X12_isPointerTold_126 hd H
              · replace H := ite_m H c41
                refine x_aload_n dX12_isPointerTold_108 rfl 3 rfl ?_
                refine x_iload dX12_isPointerTold_109 0 rfl ?_
                refine x_iload_n dX12_isPointerTold_111 rfl 1 rfl ?_
                refine x_isub dX12_isPointerTold_112 ?_
                obtain ⟨v42, h43, hc44, H⟩ := bd_o H
                refine x_callVi (As := [.int (v14 - v12)]) (q := (RX12, TX12, 103)) dX12_isPointerTold_113 mi_X12_modulo lk_X12_403 im_X12_modulo se_X12_modulo rfl c31 rfl rfl (Nat.le_of_ble_eq_true rfl) (t_X12_modulo (by omega) hc44) ?_
                refine x_iload_n dX12_isPointerTold_116 rfl 2 rfl ?_
                refine x_iconst (v := 2) dX12_isPointerTold_117 (by decide) ?_
                refine x_idiv dX12_isPointerTold_118 (by decide) ?_
                refine x_icmp_gt (tgt := 126) dX12_isPointerTold_119 (by decide) (fun c45 => ?_) (fun c45 => ?_)
                · replace H := ite_p H c45
                  refine Ex.sub [] rfl ?_
                  exact t_X12_isPointerTold_126 hd H
                · replace H := ite_m H c45
                  refine x_iconst (v := 1) dX12_isPointerTold_122 (by decide) ?_
                  refine x_goto (tgt := 127) dX12_isPointerTold_123 (by decide) ?_
                  refine Ex.sub [] rfl ?_
                  exact t_X12_isPointerTold_127 hd H
          · replace H := ite_m H c39
            refine Ex.sub [] rfl ?_
            exact t_X12_isPointerTold_95 hd H
def f_X12_areObjectsTold_84 (h : aH) : Option (Int32 × aH) :=
  some (0, h)
set_option maxRecDepth 100000 in
set_option maxHeartbeats 4000000 in
theorem t_X12_areObjectsTold_84 {Γ : gS} {d : Nat} (hd : 2 ≤ d) {h : aH} {r : Int32} {h' : aH} (H : f_X12_areObjectsTold_84 h = some (r, h')) : Ex Γ gX12_areObjectsTold d 84 [] [] h (some (.int r)) h' := by
  unfold f_X12_areObjectsTold_84 at H
  obtain ⟨d, rfl⟩ : ∃ e, d = e + 1 := ⟨d - 1, by omega⟩
  refine x_iconst (v := 0) dX12_areObjectsTold_84 (by decide) ?_
  obtain ⟨rfl, rfl⟩ := so_1 H
  exact x_iret dX12_areObjectsTold_85 rfl (by decide)
def b_X12_areObjectsTold_6 (k6 : Nat → Int32 → Int32 → Int32 → Int32 → aH → Option (Int32 × aH)) (x0 : Nat) (x1 : Int32) (x2 : Int32) (x3 : Int32) (x4 : Int32) (h : aH) : Option (Int32 × aH) :=
  if x2 ≤ x4 then
    some (1, h)
  else
    ko h x0 11 <|
    bd (f_X12_twoAt x0 (x1 + (6 * x4)) h) fun v2 h3 =>
    ko h3 x0 11 <|
    bd (f_X12_twoAt x0 ((x1 + (6 * x4)) + 2) h3) fun v5 h6 =>
    if v2 < x3 then
      f_X12_areObjectsTold_84 h6
    else
      ko h6 x0 11 <|
      kr (hR h6 x0 37) fun a10 =>
      ka h6 a10 .int fun n13 =>
      chk (inb 3 n13 = true) <|
      if (hI h6 a10 (3 : Int32).toNatClampNeg) < (v2 + v5) then
        f_X12_areObjectsTold_84 h6
      else
        bd (f_X12_twoAt x0 ((x1 + (6 * x4)) + 4) h6) fun v16 h17 =>
        bd (f_X12_isIn v16.toInt64 1 v5.toInt64 h17) fun v19 h20 =>
        if v19 = 0 then
          f_X12_areObjectsTold_84 h20
        else
          ko h20 x0 11 <|
          bd (f_X12_encodes x0 v2 v5 h20) fun _ h24 =>
          ko h24 x0 11 <|
          bd (f_X12_isExact x0 v2 v5 h24) fun v26 h27 =>
          if v26 = 0 then
            some (0, h27)
          else
            nm (v2 + v5) fun (v30 : Int32) =>
            nm (x4 + 1) fun (v31 : Int32) =>
            k6 x0 x1 x2 v30 v31 h27
set_option maxRecDepth 100000 in
set_option maxHeartbeats 4000000 in
theorem tb_X12_areObjectsTold_6 {Γ : gS} {d : Nat} (hd : 2 ≤ d) {k6 : Nat → Int32 → Int32 → Int32 → Int32 → aH → Option (Int32 × aH)} (hk6 : ∀ {x0 : Nat} {x1 : Int32} {x2 : Int32} {x3 : Int32} {x4 : Int32} {h : aH} {r : Int32} {h' : aH}, k6 x0 x1 x2 x3 x4 h = some (r, h') → Ex Γ gX12_areObjectsTold d 6 [(0, .ref x0), (1, .int x1), (2, .int x2), (3, .int x3), (4, .int x4)] [] h (some (.int r)) h') {x0 : Nat} {x1 : Int32} {x2 : Int32} {x3 : Int32} {x4 : Int32} {h : aH} {r : Int32} {h' : aH} (H : b_X12_areObjectsTold_6 k6 x0 x1 x2 x3 x4 h = some (r, h')) : Ex Γ gX12_areObjectsTold d 6 [(0, .ref x0), (1, .int x1), (2, .int x2), (3, .int x3), (4, .int x4)] [] h (some (.int r)) h' := by
  unfold b_X12_areObjectsTold_6 at H
  obtain ⟨d, rfl⟩ : ∃ e, d = e + 1 := ⟨d - 1, by omega⟩
  refine x_iload dX12_areObjectsTold_6 4 rfl ?_
  refine x_iload_n dX12_areObjectsTold_8 rfl 2 rfl ?_
  refine x_icmp_ge (tgt := 119) dX12_areObjectsTold_9 (by decide) (fun c1 => ?_) (fun c1 => ?_)
  · replace H := ite_p H c1
    refine x_iconst (v := 1) dX12_areObjectsTold_119 (by decide) ?_
    obtain ⟨rfl, rfl⟩ := so_1 H
    exact x_iret dX12_areObjectsTold_120 rfl (by decide)
  · replace H := ite_m H c1
    refine x_aload_n dX12_areObjectsTold_12 rfl 0 rfl ?_
    refine x_iload_n dX12_areObjectsTold_13 rfl 1 rfl ?_
    refine x_bipush (v := 6) dX12_areObjectsTold_14 (by decide) ?_
    refine x_iload dX12_areObjectsTold_16 4 rfl ?_
    refine x_imul dX12_areObjectsTold_18 ?_
    refine x_iadd dX12_areObjectsTold_19 ?_
    obtain ⟨c35, H⟩ := ko_o H
    obtain ⟨v2, h3, hc4, H⟩ := bd_o H
    refine x_callVi (As := [.int (x1 + (6 * x4))]) (q := (RX12, TX12, 103)) dX12_areObjectsTold_20 mi_X12_twoAt lk_X12_681 im_X12_twoAt se_X12_twoAt rfl c35 rfl rfl (Nat.le_of_ble_eq_true rfl) (t_X12_twoAt (by omega) hc4) ?_
    refine x_istore (lv' := [(5, .int v2), (0, .ref x0), (1, .int x1), (2, .int x2), (3, .int x3), (4, .int x4)]) dX12_areObjectsTold_23 (by decide) rfl rfl ?_
    refine x_aload_n dX12_areObjectsTold_25 rfl 1 rfl ?_
    refine x_iload_n dX12_areObjectsTold_26 rfl 2 rfl ?_
    refine x_bipush (v := 6) dX12_areObjectsTold_27 (by decide) ?_
    refine x_iload dX12_areObjectsTold_29 5 rfl ?_
    refine x_imul dX12_areObjectsTold_31 ?_
    refine x_iadd dX12_areObjectsTold_32 ?_
    refine x_iconst (v := 2) dX12_areObjectsTold_33 (by decide) ?_
    refine x_iadd dX12_areObjectsTold_34 ?_
    obtain ⟨c34, H⟩ := ko_o H
    obtain ⟨v5, h6, hc7, H⟩ := bd_o H
    refine x_callVi (As := [.int ((x1 + (6 * x4)) + 2)]) (q := (RX12, TX12, 103)) dX12_areObjectsTold_35 mi_X12_twoAt lk_X12_681 im_X12_twoAt se_X12_twoAt rfl c34 rfl rfl (Nat.le_of_ble_eq_true rfl) (t_X12_twoAt (by omega) hc7) ?_
    refine x_istore (lv' := [(6, .int v5), (5, .int v2), (0, .ref x0), (1, .int x1), (2, .int x2), (3, .int x3), (4, .int x4)]) dX12_areObjectsTold_38 (by decide) rfl rfl ?_
    refine x_iload dX12_areObjectsTold_40 1 rfl ?_
    refine x_iload_n dX12_areObjectsTold_42 rfl 5 rfl ?_
    refine x_icmp_lt (tgt := 84) dX12_areObjectsTold_43 (by decide) (fun c8 => ?_) (fun c8 => ?_)
    · replace H := ite_p H c8
      refine Ex.sub [] rfl ?_
      exact t_X12_areObjectsTold_84 hd H
    · replace H := ite_m H c8
      refine x_iload dX12_areObjectsTold_46 1 rfl ?_
      refine x_iload dX12_areObjectsTold_48 0 rfl ?_
      refine x_iadd dX12_areObjectsTold_50 ?_
      refine x_aload_n dX12_areObjectsTold_51 rfl 2 rfl ?_
      obtain ⟨c9, H⟩ := ko_o H
      obtain ⟨a10, c11, H⟩ := kr_o H
      refine x_getR fr_X12_96 dX12_areObjectsTold_52 c9 rfl c11 ?_
      refine x_iconst (v := 3) dX12_areObjectsTold_55 (by decide) ?_
      obtain ⟨n13, c12, H⟩ := ka_o H
      obtain ⟨c14, H⟩ := chk_o H
      refine x_iald dX12_areObjectsTold_56 c12 (inb_in.mp c14) ?_
      refine x_icmp_gt (tgt := 84) dX12_areObjectsTold_57 (by decide) (fun c15 => ?_) (fun c15 => ?_)
      · replace H := ite_p H c15
        refine Ex.sub [] rfl ?_
        exact t_X12_areObjectsTold_84 hd H
      · replace H := ite_m H c15
        refine x_aload_n dX12_areObjectsTold_60 rfl 2 rfl ?_
        refine x_iload_n dX12_areObjectsTold_61 rfl 3 rfl ?_
        refine x_bipush (v := 6) dX12_areObjectsTold_62 (by decide) ?_
        refine x_iload dX12_areObjectsTold_64 6 rfl ?_
        refine x_imul dX12_areObjectsTold_66 ?_
        refine x_iadd dX12_areObjectsTold_67 ?_
        refine x_iconst (v := 4) dX12_areObjectsTold_68 (by decide) ?_
        refine x_iadd dX12_areObjectsTold_69 ?_
        obtain ⟨v16, h17, hc18, H⟩ := bd_o H
        refine x_callVi (As := [.int ((x1 + (6 * x4)) + 4)]) (q := (RX12, TX12, 103)) dX12_areObjectsTold_70 mi_X12_twoAt lk_X12_681 im_X12_twoAt se_X12_twoAt rfl c9 rfl rfl (Nat.le_of_ble_eq_true rfl) (t_X12_twoAt (by omega) hc18) ?_
        refine x_i2l dX12_areObjectsTold_73 ?_
        refine x_lconst (v := 1) dX12_areObjectsTold_74 (by decide) ?_
        refine x_iload dX12_areObjectsTold_75 0 rfl ?_
        refine x_i2l dX12_areObjectsTold_77 ?_
        obtain ⟨v19, h20, hc21, H⟩ := bd_o H
        refine x_callSi (As := [.long v16.toInt64, .long 1, .long v5.toInt64]) dX12_areObjectsTold_78 mi_X12_isIn lk_X12_268 sm_X12_isIn rfl rfl (Nat.le_of_ble_eq_true rfl) (t_X12_isIn (by omega) hc21) ?_
        refine x_if_ne (tgt := 86) dX12_areObjectsTold_81 (by decide) (fun c22 => ?_) (fun c22 => ?_)
        · replace H := ite_m H c22
          refine x_aload_n dX12_areObjectsTold_86 rfl 2 rfl ?_
          refine x_iload dX12_areObjectsTold_87 1 rfl ?_
          refine x_iload dX12_areObjectsTold_89 0 rfl ?_
          obtain ⟨c33, H⟩ := ko_o H
          obtain ⟨v23, h24, hc25, H⟩ := bd_o H
          refine x_callVv (As := [.int v2, .int v5]) (q := (RX12, TX12, 103)) dX12_areObjectsTold_91 mi_X12_encodes lk_X12_356 im_X12_encodes se_X12_encodes rfl c33 rfl rfl (Nat.le_of_ble_eq_true rfl) (t_X12_encodes (by omega) hc25) ?_
          refine x_aload_n dX12_areObjectsTold_94 rfl 2 rfl ?_
          refine x_iload dX12_areObjectsTold_95 1 rfl ?_
          refine x_iload dX12_areObjectsTold_97 0 rfl ?_
          obtain ⟨c32, H⟩ := ko_o H
          obtain ⟨v26, h27, hc28, H⟩ := bd_o H
          refine x_callVi (As := [.int v2, .int v5]) (q := (RX12, TX12, 103)) dX12_areObjectsTold_99 mi_X12_isExact lk_X12_491 im_X12_isExact se_X12_isExact rfl c32 rfl rfl (Nat.le_of_ble_eq_true rfl) (t_X12_isExact (by omega) hc28) ?_
          refine x_if_ne (tgt := 107) dX12_areObjectsTold_102 (by decide) (fun c29 => ?_) (fun c29 => ?_)
          · replace H := ite_m H c29
            refine x_iload dX12_areObjectsTold_107 1 rfl ?_
            refine x_iload dX12_areObjectsTold_109 0 rfl ?_
            refine x_iadd dX12_areObjectsTold_111 ?_
            obtain ⟨v30, ev30, H⟩ := nm_o H
            refine x_istore_n (lv' := [(3, .int v30), (6, .int v5), (5, .int v2), (0, .ref x0), (1, .int x1), (2, .int x2), (4, .int x4)]) dX12_areObjectsTold_112 rfl (by decide) ev30 rfl ?_
            obtain ⟨v31, ev31, H⟩ := nm_o H
            refine x_iinc (v := v31) (lv' := [(4, .int v31), (3, .int v30), (6, .int v5), (5, .int v2), (0, .ref x0), (1, .int x1), (2, .int x2)]) dX12_areObjectsTold_113 6 rfl (by decide) ev31 rfl ?_
            refine x_goto (tgt := 6) dX12_areObjectsTold_116 (by decide) ?_
            refine Ex.sub [4, 5, 6, 1, 0] rfl ?_
            exact hk6 H
          · replace H := ite_p H c29
            refine x_iconst (v := 0) dX12_areObjectsTold_105 (by decide) ?_
            obtain ⟨rfl, rfl⟩ := so_1 H
            exact x_iret dX12_areObjectsTold_106 rfl (by decide)
        · replace H := ite_p H c22
          refine Ex.sub [] rfl ?_
          exact t_X12_areObjectsTold_84 hd H
def f_X12_areObjectsTold_6 : Nat → Nat → Int32 → Int32 → Int32 → Int32 → aH → Option (Int32 × aH)
  | 0 => fun _ _ _ _ _ _ => none
  | n + 1 => b_X12_areObjectsTold_6 (f_X12_areObjectsTold_6 n)
set_option maxRecDepth 100000 in
set_option maxHeartbeats 4000000 in
theorem t_X12_areObjectsTold_6 {Γ : gS} {d : Nat} (hd : 2 ≤ d) (n : Nat) : ∀ {x0 : Nat} {x1 : Int32} {x2 : Int32} {x3 : Int32} {x4 : Int32} {h : aH} {r : Int32} {h' : aH}, f_X12_areObjectsTold_6 n x0 x1 x2 x3 x4 h = some (r, h') → Ex Γ gX12_areObjectsTold d 6 [(0, .ref x0), (1, .int x1), (2, .int x2), (3, .int x3), (4, .int x4)] [] h (some (.int r)) h' := by
  induction n with
  | zero => intro x0 x1 x2 x3 x4 h r h' H; cases H
  | succ n ih => intro x0 x1 x2 x3 x4 h r h' H; exact tb_X12_areObjectsTold_6 hd ih H
def f_X12_areObjectsTold (x0 : Nat) (x1 : Int32) (x2 : Int32) (h : aH) : Option (Int32 × aH) :=
  f_X12_areObjectsTold_6 FU x0 x1 x2 16 0 h
set_option maxRecDepth 100000 in
set_option maxHeartbeats 4000000 in
theorem t_X12_areObjectsTold {Γ : gS} {d : Nat} (hd : 2 ≤ d) {x0 : Nat} {x1 : Int32} {x2 : Int32} {h : aH} {r : Int32} {h' : aH} (H : f_X12_areObjectsTold x0 x1 x2 h = some (r, h')) : Mx Γ gX12_areObjectsTold d [.ref x0, .int x1, .int x2] h (some (.int r)) h' := by
  refine Mx.of (by decide +kernel) (Nat.le_of_ble_eq_true rfl) ?_
  unfold f_X12_areObjectsTold at H
  show Ex Γ gX12_areObjectsTold d 0 [(0, .ref x0), (1, .int x1), (2, .int x2)] [] h (some (.int r)) h'
  obtain ⟨d, rfl⟩ : ∃ e, d = e + 1 := ⟨d - 1, by omega⟩
  refine x_bipush (v := 16) dX12_areObjectsTold_0 (by decide) ?_
  refine x_istore_n (lv' := [(3, .int 16), (0, .ref x0), (1, .int x1), (2, .int x2)]) dX12_areObjectsTold_2 rfl (by decide) rfl rfl ?_
  refine x_iconst (v := 0) dX12_areObjectsTold_3 (by decide) ?_
  refine x_istore (lv' := [(4, .int 0), (3, .int 16), (0, .ref x0), (1, .int x1), (2, .int x2)]) dX12_areObjectsTold_4 (by decide) rfl rfl ?_
  refine Ex.sub [2, 3, 4, 1, 0] rfl ?_
  exact t_X12_areObjectsTold_6 hd FU H
def f_X12_isImage_48 (h : aH) : Option (Int32 × aH) :=
  some (0, h)
set_option maxRecDepth 100000 in
set_option maxHeartbeats 4000000 in
theorem t_X12_isImage_48 {Γ : gS} {d : Nat} (hd : 3 ≤ d) {h : aH} {r : Int32} {h' : aH} (H : f_X12_isImage_48 h = some (r, h')) : Ex Γ gX12_isImage d 48 [] [] h (some (.int r)) h' := by
  unfold f_X12_isImage_48 at H
  obtain ⟨d, rfl⟩ : ∃ e, d = e + 1 := ⟨d - 1, by omega⟩
  refine x_iconst (v := 0) dX12_isImage_48 (by decide) ?_
  obtain ⟨rfl, rfl⟩ := so_1 H
  exact x_iret dX12_isImage_49 rfl (by decide)
def f_X12_isImage_81 (h : aH) : Option (Int32 × aH) :=
  some (0, h)
set_option maxRecDepth 100000 in
set_option maxHeartbeats 4000000 in
theorem t_X12_isImage_81 {Γ : gS} {d : Nat} (hd : 3 ≤ d) {h : aH} {r : Int32} {h' : aH} (H : f_X12_isImage_81 h = some (r, h')) : Ex Γ gX12_isImage d 81 [] [] h (some (.int r)) h' := by
  unfold f_X12_isImage_81 at H
  obtain ⟨d, rfl⟩ : ∃ e, d = e + 1 := ⟨d - 1, by omega⟩
  refine x_iconst (v := 0) dX12_isImage_81 (by decide) ?_
  obtain ⟨rfl, rfl⟩ := so_1 H
  exact x_iret dX12_isImage_82 rfl (by decide)
def f_X12_isImage_165 (k86 : Nat → Int32 → Int32 → Int32 → aH → Option (Int32 × aH)) (x0 : Nat) (x2 : Int32) (x3 : Int32) (x4 : Int32) (h : aH) : Option (Int32 × aH) :=
  nm (x4 + 1) fun (v1 : Int32) =>
  k86 x0 x2 x3 v1 h
set_option maxRecDepth 100000 in
set_option maxHeartbeats 4000000 in
theorem t_X12_isImage_165 {Γ : gS} {d : Nat} (hd : 3 ≤ d) {k86 : Nat → Int32 → Int32 → Int32 → aH → Option (Int32 × aH)} (hk86 : ∀ {x0 : Nat} {x2 : Int32} {x3 : Int32} {x4 : Int32} {h : aH} {r : Int32} {h' : aH}, k86 x0 x2 x3 x4 h = some (r, h') → Ex Γ gX12_isImage d 86 [(0, .ref x0), (2, .int x2), (3, .int x3), (4, .int x4)] [] h (some (.int r)) h') {x0 : Nat} {x2 : Int32} {x3 : Int32} {x4 : Int32} {h : aH} {r : Int32} {h' : aH} (H : f_X12_isImage_165 k86 x0 x2 x3 x4 h = some (r, h')) : Ex Γ gX12_isImage d 165 [(0, .ref x0), (2, .int x2), (3, .int x3), (4, .int x4)] [] h (some (.int r)) h' := by
  unfold f_X12_isImage_165 at H
  obtain ⟨d, rfl⟩ : ∃ e, d = e + 1 := ⟨d - 1, by omega⟩
  obtain ⟨v1, ev1, H⟩ := nm_o H
  refine x_iinc (v := v1) (lv' := [(4, .int v1), (0, .ref x0), (2, .int x2), (3, .int x3)]) dX12_isImage_165 3 rfl (by decide) ev1 rfl ?_
  refine x_goto (tgt := 86) dX12_isImage_168 (by decide) ?_
  refine Ex.sub [1, 2, 3, 0] rfl ?_
  exact hk86 H
def f_X12_isImage_163 (h : aH) : Option (Int32 × aH) :=
  some (0, h)
set_option maxRecDepth 100000 in
set_option maxHeartbeats 4000000 in
theorem t_X12_isImage_163 {Γ : gS} {d : Nat} (hd : 3 ≤ d) {h : aH} {r : Int32} {h' : aH} (H : f_X12_isImage_163 h = some (r, h')) : Ex Γ gX12_isImage d 163 [] [] h (some (.int r)) h' := by
  unfold f_X12_isImage_163 at H
  obtain ⟨d, rfl⟩ : ∃ e, d = e + 1 := ⟨d - 1, by omega⟩
  refine x_iconst (v := 0) dX12_isImage_163 (by decide) ?_
  obtain ⟨rfl, rfl⟩ := so_1 H
  exact x_iret dX12_isImage_164 rfl (by decide)
def f_X12_isImage_114 (k86 : Nat → Int32 → Int32 → Int32 → aH → Option (Int32 × aH)) (x0 : Nat) (x2 : Int32) (x3 : Int32) (x4 : Int32) (h : aH) : Option (Int32 × aH) :=
  ko h x0 11 <|
  bd (f_X12_isPointerTold x0 (8 * x4) h) fun v2 h3 =>
  if v2 = 0 then
    f_X12_isImage_163 h3
  else
    if x4 < 16 then
      f_X12_isImage_165 k86 x0 x2 x3 x4 h3
    else
      ko h3 x0 11 <|
      kr (hR h3 x0 0) fun a8 =>
      ka h3 a8 .int fun n11 =>
      chk (inb ((8 * x4) + 7) n11 = true) <|
      kr (hR h3 x0 39) fun a13 =>
      ka h3 a13 .int fun n16 =>
      chk (inb (4 + ((x4 - 16) / 4)) n16 = true) <|
      if (hI h3 a8 ((8 * x4) + 7 : Int32).toNatClampNeg) = (hI h3 a13 (4 + ((x4 - 16) / 4) : Int32).toNatClampNeg) then
        f_X12_isImage_165 k86 x0 x2 x3 x4 h3
      else
        f_X12_isImage_163 h3
set_option maxRecDepth 100000 in
set_option maxHeartbeats 4000000 in
theorem t_X12_isImage_114 {Γ : gS} {d : Nat} (hd : 3 ≤ d) {k86 : Nat → Int32 → Int32 → Int32 → aH → Option (Int32 × aH)} (hk86 : ∀ {x0 : Nat} {x2 : Int32} {x3 : Int32} {x4 : Int32} {h : aH} {r : Int32} {h' : aH}, k86 x0 x2 x3 x4 h = some (r, h') → Ex Γ gX12_isImage d 86 [(0, .ref x0), (2, .int x2), (3, .int x3), (4, .int x4)] [] h (some (.int r)) h') {x0 : Nat} {x2 : Int32} {x3 : Int32} {x4 : Int32} {h : aH} {r : Int32} {h' : aH} (H : f_X12_isImage_114 k86 x0 x2 x3 x4 h = some (r, h')) : Ex Γ gX12_isImage d 114 [(0, .ref x0), (2, .int x2), (3, .int x3), (4, .int x4)] [] h (some (.int r)) h' := by
  unfold f_X12_isImage_114 at H
  obtain ⟨d, rfl⟩ : ∃ e, d = e + 1 := ⟨d - 1, by omega⟩
  refine x_aload_n dX12_isImage_114 rfl 0 rfl ?_
  refine x_bipush (v := 8) dX12_isImage_115 (by decide) ?_
  refine x_iload dX12_isImage_117 3 rfl ?_
  refine x_imul dX12_isImage_119 ?_
  obtain ⟨c19, H⟩ := ko_o H
  obtain ⟨v2, h3, hc4, H⟩ := bd_o H
  refine x_callVi (As := [.int (8 * x4)]) (q := (RX12, TX12, 103)) dX12_isImage_120 mi_X12_isPointerTold lk_X12_687 im_X12_isPointerTold se_X12_isPointerTold rfl c19 rfl rfl (Nat.le_of_ble_eq_true rfl) (t_X12_isPointerTold (by omega) hc4) ?_
  refine x_if_eq (tgt := 163) dX12_isImage_123 (by decide) (fun c5 => ?_) (fun c5 => ?_)
  · replace H := ite_p H c5
    refine Ex.sub [] rfl ?_
    exact t_X12_isImage_163 hd H
  · replace H := ite_m H c5
    refine x_iload dX12_isImage_126 3 rfl ?_
    refine x_bipush (v := 16) dX12_isImage_128 (by decide) ?_
    refine x_icmp_lt (tgt := 165) dX12_isImage_130 (by decide) (fun c6 => ?_) (fun c6 => ?_)
    · replace H := ite_p H c6
      exact t_X12_isImage_165 hd hk86 H
    · replace H := ite_m H c6
      refine x_aload_n dX12_isImage_133 rfl 0 rfl ?_
      obtain ⟨c7, H⟩ := ko_o H
      obtain ⟨a8, c9, H⟩ := kr_o H
      refine x_getR fr_X12_7 dX12_isImage_134 c7 rfl c9 ?_
      refine x_bipush (v := 8) dX12_isImage_137 (by decide) ?_
      refine x_iload dX12_isImage_139 3 rfl ?_
      refine x_imul dX12_isImage_141 ?_
      refine x_bipush (v := 7) dX12_isImage_142 (by decide) ?_
      refine x_iadd dX12_isImage_144 ?_
      obtain ⟨n11, c10, H⟩ := ka_o H
      obtain ⟨c12, H⟩ := chk_o H
      refine x_iald dX12_isImage_145 c10 (inb_in.mp c12) ?_
      refine x_aload_n dX12_isImage_146 rfl 0 rfl ?_
      obtain ⟨a13, c14, H⟩ := kr_o H
      refine x_getR fr_X12_103 dX12_isImage_147 c7 rfl c14 ?_
      refine x_iconst (v := 4) dX12_isImage_150 (by decide) ?_
      refine x_iload dX12_isImage_151 3 rfl ?_
      refine x_bipush (v := 16) dX12_isImage_153 (by decide) ?_
      refine x_isub dX12_isImage_155 ?_
      refine x_iconst (v := 4) dX12_isImage_156 (by decide) ?_
      refine x_idiv dX12_isImage_157 (by decide) ?_
      refine x_iadd dX12_isImage_158 ?_
      obtain ⟨n16, c15, H⟩ := ka_o H
      obtain ⟨c17, H⟩ := chk_o H
      refine x_iald dX12_isImage_159 c15 (inb_in.mp c17) ?_
      refine x_icmp_eq (tgt := 165) dX12_isImage_160 (by decide) (fun c18 => ?_) (fun c18 => ?_)
      · replace H := ite_p H c18
        exact t_X12_isImage_165 hd hk86 H
      · replace H := ite_m H c18
        refine Ex.sub [] rfl ?_
        exact t_X12_isImage_163 hd H
def b_X12_isImage_86 (k86 : Nat → Int32 → Int32 → Int32 → aH → Option (Int32 × aH)) (x0 : Nat) (x2 : Int32) (x3 : Int32) (x4 : Int32) (h : aH) : Option (Int32 × aH) :=
  if x2 ≤ x4 then
    ko h x0 11 <|
    bd (f_X12_areObjectsTold x0 ((8 * x2) + 1) x3 h) fun v21 h22 =>
    chk (narrow .boolean (.int v21) = .int v21) <|
    some (v21, h22)
  else
    if x4 < 16 then
      f_X12_isImage_114 k86 x0 x2 x3 x4 h
    else
      ko h x0 11 <|
      bd (f_X12_isEmptyTold x0 (8 * x4) h) fun v27 h28 =>
      if v27 = 0 then
        f_X12_isImage_114 k86 x0 x2 x3 x4 h28
      else
        f_X12_isImage_165 k86 x0 x2 x3 x4 h28
set_option maxRecDepth 100000 in
set_option maxHeartbeats 4000000 in
theorem tb_X12_isImage_86 {Γ : gS} {d : Nat} (hd : 3 ≤ d) {k86 : Nat → Int32 → Int32 → Int32 → aH → Option (Int32 × aH)} (hk86 : ∀ {x0 : Nat} {x2 : Int32} {x3 : Int32} {x4 : Int32} {h : aH} {r : Int32} {h' : aH}, k86 x0 x2 x3 x4 h = some (r, h') → Ex Γ gX12_isImage d 86 [(0, .ref x0), (2, .int x2), (3, .int x3), (4, .int x4)] [] h (some (.int r)) h') {x0 : Nat} {x2 : Int32} {x3 : Int32} {x4 : Int32} {h : aH} {r : Int32} {h' : aH} (H : b_X12_isImage_86 k86 x0 x2 x3 x4 h = some (r, h')) : Ex Γ gX12_isImage d 86 [(0, .ref x0), (2, .int x2), (3, .int x3), (4, .int x4)] [] h (some (.int r)) h' := by
  unfold b_X12_isImage_86 at H
  obtain ⟨d, rfl⟩ : ∃ e, d = e + 1 := ⟨d - 1, by omega⟩
  refine x_iload dX12_isImage_86 3 rfl ?_
  refine x_iload_n dX12_isImage_88 rfl 1 rfl ?_
  refine x_icmp_ge (tgt := 171) dX12_isImage_89 (by decide) (fun c20 => ?_) (fun c20 => ?_)
  · replace H := ite_p H c20
    refine x_aload_n dX12_isImage_171 rfl 0 rfl ?_
    refine x_bipush (v := 8) dX12_isImage_172 (by decide) ?_
    refine x_iload_n dX12_isImage_174 rfl 1 rfl ?_
    refine x_imul dX12_isImage_175 ?_
    refine x_iconst (v := 1) dX12_isImage_176 (by decide) ?_
    refine x_iadd dX12_isImage_177 ?_
    refine x_iload_n dX12_isImage_178 rfl 2 rfl ?_
    obtain ⟨c25, H⟩ := ko_o H
    obtain ⟨v21, h22, hc23, H⟩ := bd_o H
    refine x_callVi (As := [.int ((8 * x2) + 1), .int x3]) (q := (RX12, TX12, 103)) dX12_isImage_179 mi_X12_areObjectsTold lk_X12_690 im_X12_areObjectsTold se_X12_areObjectsTold rfl c25 rfl rfl (Nat.le_of_ble_eq_true rfl) (t_X12_areObjectsTold (by omega) hc23) ?_
    obtain ⟨c24, H⟩ := chk_o H
    obtain ⟨rfl, rfl⟩ := so_1 H
    exact x_iret dX12_isImage_182 rfl c24
  · replace H := ite_m H c20
    refine x_iload dX12_isImage_92 3 rfl ?_
    refine x_bipush (v := 16) dX12_isImage_94 (by decide) ?_
    refine x_icmp_lt (tgt := 114) dX12_isImage_96 (by decide) (fun c26 => ?_) (fun c26 => ?_)
    · replace H := ite_p H c26
      exact t_X12_isImage_114 hd hk86 H
    · replace H := ite_m H c26
      refine x_aload_n dX12_isImage_99 rfl 0 rfl ?_
      refine x_bipush (v := 8) dX12_isImage_100 (by decide) ?_
      refine x_iload dX12_isImage_102 3 rfl ?_
      refine x_imul dX12_isImage_104 ?_
      obtain ⟨c31, H⟩ := ko_o H
      obtain ⟨v27, h28, hc29, H⟩ := bd_o H
      refine x_callVi (As := [.int (8 * x4)]) (q := (RX12, TX12, 103)) dX12_isImage_105 mi_X12_isEmptyTold lk_X12_684 im_X12_isEmptyTold se_X12_isEmptyTold rfl c31 rfl rfl (Nat.le_of_ble_eq_true rfl) (t_X12_isEmptyTold (by omega) hc29) ?_
      refine x_if_eq (tgt := 114) dX12_isImage_108 (by decide) (fun c30 => ?_) (fun c30 => ?_)
      · replace H := ite_p H c30
        exact t_X12_isImage_114 hd hk86 H
      · replace H := ite_m H c30
        refine x_goto (tgt := 165) dX12_isImage_111 (by decide) ?_
        exact t_X12_isImage_165 hd hk86 H
def f_X12_isImage_86 : Nat → Nat → Int32 → Int32 → Int32 → aH → Option (Int32 × aH)
  | 0 => fun _ _ _ _ _ => none
  | n + 1 => b_X12_isImage_86 (f_X12_isImage_86 n)
set_option maxRecDepth 100000 in
set_option maxHeartbeats 4000000 in
theorem t_X12_isImage_86 {Γ : gS} {d : Nat} (hd : 3 ≤ d) (n : Nat) : ∀ {x0 : Nat} {x2 : Int32} {x3 : Int32} {x4 : Int32} {h : aH} {r : Int32} {h' : aH}, f_X12_isImage_86 n x0 x2 x3 x4 h = some (r, h') → Ex Γ gX12_isImage d 86 [(0, .ref x0), (2, .int x2), (3, .int x3), (4, .int x4)] [] h (some (.int r)) h' := by
  induction n with
  | zero => intro x0 x2 x3 x4 h r h' H; cases H
  | succ n ih => intro x0 x2 x3 x4 h r h' H; exact tb_X12_isImage_86 hd ih H
def f_X12_isImage (x0 : Nat) (x1 : Int32) (h : aH) : Option (Int32 × aH) :=
  ko h x0 11 <|
  bd (f_X12_shelfMany x0 h) fun v32 h33 =>
  nm (16 + (4 * v32)) fun (v35 : Int32) =>
  ko h33 x0 11 <|
  if (hI h33 x0 45) = 0 then
    f_X12_isImage_48 h33
  else
    if x1 < ((8 * v35) + 2) then
      f_X12_isImage_48 h33
    else
      kr (hR h33 x0 0) fun a39 =>
      ka h33 a39 .int fun n42 =>
      chk (inb (x1 - 1) n42 = true) <|
      bd (f_X12_checked a39 (x1 - 1) h33) fun v44 h45 =>
      if (hI h33 a39 (x1 - 1 : Int32).toNatClampNeg) = v44 then
        ko h45 x0 11 <|
        kr (hR h45 x0 0) fun a49 =>
        ka h45 a49 .int fun n52 =>
        chk (inb (8 * v35) n52 = true) <|
        nm (hI h45 a49 (8 * v35 : Int32).toNatClampNeg) fun (v54 : Int32) =>
        if 32 < v54 then
          f_X12_isImage_81 h45
        else
          if x1 = (((8 * v35) + (6 * v54)) + 2) then
            f_X12_isImage_86 FU x0 v35 v54 0 h45
          else
            f_X12_isImage_81 h45
      else
        f_X12_isImage_48 h45
set_option maxRecDepth 100000 in
set_option maxHeartbeats 4000000 in
theorem t_X12_isImage {Γ : gS} {d : Nat} (hd : 3 ≤ d) {x0 : Nat} {x1 : Int32} {h : aH} {r : Int32} {h' : aH} (H : f_X12_isImage x0 x1 h = some (r, h')) : Mx Γ gX12_isImage d [.ref x0, .int x1] h (some (.int r)) h' := by
  refine Mx.of (by decide +kernel) (Nat.le_of_ble_eq_true rfl) ?_
  unfold f_X12_isImage at H
  show Ex Γ gX12_isImage d 0 [(0, .ref x0), (1, .int x1)] [] h (some (.int r)) h'
  obtain ⟨d, rfl⟩ : ∃ e, d = e + 1 := ⟨d - 1, by omega⟩
  refine x_bipush (v := 16) dX12_isImage_0 (by decide) ?_
  refine x_iconst (v := 4) dX12_isImage_2 (by decide) ?_
  refine x_aload_n dX12_isImage_3 rfl 0 rfl ?_
  obtain ⟨c57, H⟩ := ko_o H
  obtain ⟨v32, h33, hc34, H⟩ := bd_o H
  refine x_callVi (As := []) (q := (RX12, TX12, 103)) dX12_isImage_4 mi_X12_shelfMany lk_X12_370 im_X12_shelfMany se_X12_shelfMany rfl c57 rfl rfl (Nat.le_of_ble_eq_true rfl) (t_X12_shelfMany (by omega) hc34) ?_
  refine x_imul dX12_isImage_7 ?_
  refine x_iadd dX12_isImage_8 ?_
  obtain ⟨v35, ev35, H⟩ := nm_o H
  refine x_istore_n (lv' := [(2, .int v35), (0, .ref x0), (1, .int x1)]) dX12_isImage_9 rfl (by decide) ev35 rfl ?_
  refine x_aload_n dX12_isImage_10 rfl 1 rfl ?_
  obtain ⟨c36, H⟩ := ko_o H
  refine x_getI fr_X12_352 dX12_isImage_11 c36 rfl ?_
  refine x_if_eq (tgt := 48) dX12_isImage_14 (by decide) (fun c37 => ?_) (fun c37 => ?_)
  · replace H := ite_p H c37
    refine Ex.sub [] rfl ?_
    exact t_X12_isImage_48 hd H
  · replace H := ite_m H c37
    refine x_iload_n dX12_isImage_17 rfl 2 rfl ?_
    refine x_bipush (v := 8) dX12_isImage_18 (by decide) ?_
    refine x_iload_n dX12_isImage_20 rfl 0 rfl ?_
    refine x_imul dX12_isImage_21 ?_
    refine x_iconst (v := 2) dX12_isImage_22 (by decide) ?_
    refine x_iadd dX12_isImage_23 ?_
    refine x_icmp_lt (tgt := 48) dX12_isImage_24 (by decide) (fun c38 => ?_) (fun c38 => ?_)
    · replace H := ite_p H c38
      refine Ex.sub [] rfl ?_
      exact t_X12_isImage_48 hd H
    · replace H := ite_m H c38
      refine x_aload_n dX12_isImage_27 rfl 1 rfl ?_
      obtain ⟨a39, c40, H⟩ := kr_o H
      refine x_getR fr_X12_7 dX12_isImage_28 c36 rfl c40 ?_
      refine x_iload_n dX12_isImage_31 rfl 2 rfl ?_
      refine x_iconst (v := 1) dX12_isImage_32 (by decide) ?_
      refine x_isub dX12_isImage_33 ?_
      obtain ⟨n42, c41, H⟩ := ka_o H
      obtain ⟨c43, H⟩ := chk_o H
      refine x_iald dX12_isImage_34 c41 (inb_in.mp c43) ?_
      refine x_aload_n dX12_isImage_35 rfl 1 rfl ?_
      refine x_getR fr_X12_7 dX12_isImage_36 c36 rfl c40 ?_
      refine x_iload_n dX12_isImage_39 rfl 2 rfl ?_
      refine x_iconst (v := 1) dX12_isImage_40 (by decide) ?_
      refine x_isub dX12_isImage_41 ?_
      obtain ⟨v44, h45, hc46, H⟩ := bd_o H
      refine x_callSi (As := [.ref a39, .int (x1 - 1)]) dX12_isImage_42 mi_X12_checked lk_X12_677 sm_X12_checked rfl rfl (Nat.le_of_ble_eq_true rfl) (t_X12_checked (by omega) hc46) ?_
      refine x_icmp_eq (tgt := 50) dX12_isImage_45 (by decide) (fun c47 => ?_) (fun c47 => ?_)
      · replace H := ite_p H c47
        refine x_aload_n dX12_isImage_50 rfl 1 rfl ?_
        obtain ⟨c48, H⟩ := ko_o H
        obtain ⟨a49, c50, H⟩ := kr_o H
        refine x_getR fr_X12_7 dX12_isImage_51 c48 rfl c50 ?_
        refine x_bipush (v := 8) dX12_isImage_54 (by decide) ?_
        refine x_iload_n dX12_isImage_56 rfl 0 rfl ?_
        refine x_imul dX12_isImage_57 ?_
        obtain ⟨n52, c51, H⟩ := ka_o H
        obtain ⟨c53, H⟩ := chk_o H
        refine x_iald dX12_isImage_58 c51 (inb_in.mp c53) ?_
        obtain ⟨v54, ev54, H⟩ := nm_o H
        refine x_istore_n (lv' := [(3, .int v54), (2, .int v35), (0, .ref x0), (1, .int x1)]) dX12_isImage_59 rfl (by decide) ev54 rfl ?_
        refine x_iload_n dX12_isImage_60 rfl 0 rfl ?_
        refine x_bipush (v := 32) dX12_isImage_61 (by decide) ?_
        refine x_icmp_gt (tgt := 81) dX12_isImage_63 (by decide) (fun c55 => ?_) (fun c55 => ?_)
        · replace H := ite_p H c55
          refine Ex.sub [] rfl ?_
          exact t_X12_isImage_81 hd H
        · replace H := ite_m H c55
          refine x_iload_n dX12_isImage_66 rfl 3 rfl ?_
          refine x_bipush (v := 8) dX12_isImage_67 (by decide) ?_
          refine x_iload_n dX12_isImage_69 rfl 1 rfl ?_
          refine x_imul dX12_isImage_70 ?_
          refine x_bipush (v := 6) dX12_isImage_71 (by decide) ?_
          refine x_iload_n dX12_isImage_73 rfl 0 rfl ?_
          refine x_imul dX12_isImage_74 ?_
          refine x_iadd dX12_isImage_75 ?_
          refine x_iconst (v := 2) dX12_isImage_76 (by decide) ?_
          refine x_iadd dX12_isImage_77 ?_
          refine x_icmp_eq (tgt := 83) dX12_isImage_78 (by decide) (fun c56 => ?_) (fun c56 => ?_)
          · replace H := ite_p H c56
            refine x_iconst (v := 0) dX12_isImage_83 (by decide) ?_
            refine x_istore (lv' := [(4, .int 0), (3, .int v54), (2, .int v35), (0, .ref x0), (1, .int x1)]) dX12_isImage_84 (by decide) rfl rfl ?_
            refine Ex.sub [3, 2, 1, 0] rfl ?_
            exact t_X12_isImage_86 hd FU H
          · replace H := ite_m H c56
            refine Ex.sub [] rfl ?_
            exact t_X12_isImage_81 hd H
      · replace H := ite_m H c47
        refine Ex.sub [] rfl ?_
        exact t_X12_isImage_48 hd H
def b_X12_laysPointer_52 (k52 : Nat → Int32 → Int32 → Int32 → aH → Option (Unit × aH)) (x0 : Nat) (x1 : Int32) (x2 : Int32) (x3 : Int32) (h : aH) : Option (Unit × aH) :=
  if 6 < x3 then
    some ((), h)
  else
    ko h x0 11 <|
    kr (hR h x0 47) fun a3 =>
    kr (hR h x0 0) fun a5 =>
    ka h a5 .int fun n8 =>
    chk (inb ((x2 + 1) + x3) n8 = true) <|
    ka h a3 .int fun n11 =>
    chk (inb (x1 + x3) n11 = true) <|
    nm (x3 + 1) fun (v13 : Int32) =>
    k52 x0 x1 x2 v13 (sI h a3 (x1 + x3 : Int32).toNatClampNeg (hI h a5 ((x2 + 1) + x3 : Int32).toNatClampNeg))
set_option maxRecDepth 100000 in
set_option maxHeartbeats 4000000 in
theorem tb_X12_laysPointer_52 {Γ : gS} {d : Nat} (hd : 1 ≤ d) {k52 : Nat → Int32 → Int32 → Int32 → aH → Option (Unit × aH)} (hk52 : ∀ {x0 : Nat} {x1 : Int32} {x2 : Int32} {x3 : Int32} {h : aH} {r : Unit} {h' : aH}, k52 x0 x1 x2 x3 h = some (r, h') → Ex Γ gX12_laysPointer d 52 [(0, .ref x0), (1, .int x1), (2, .int x2), (3, .int x3)] [] h none h') {x0 : Nat} {x1 : Int32} {x2 : Int32} {x3 : Int32} {h : aH} {r : Unit} {h' : aH} (H : b_X12_laysPointer_52 k52 x0 x1 x2 x3 h = some (r, h')) : Ex Γ gX12_laysPointer d 52 [(0, .ref x0), (1, .int x1), (2, .int x2), (3, .int x3)] [] h none h' := by
  unfold b_X12_laysPointer_52 at H
  obtain ⟨d, rfl⟩ : ∃ e, d = e + 1 := ⟨d - 1, by omega⟩
  refine x_iload_n dX12_laysPointer_52 rfl 3 rfl ?_
  refine x_bipush (v := 6) dX12_laysPointer_53 (by decide) ?_
  refine x_icmp_gt (tgt := 82) dX12_laysPointer_55 (by decide) (fun c1 => ?_) (fun c1 => ?_)
  · replace H := ite_p H c1
    obtain ⟨-, rfl⟩ := so_1 H
    exact x_vret dX12_laysPointer_82 rfl
  · replace H := ite_m H c1
    refine x_aload_n dX12_laysPointer_58 rfl 0 rfl ?_
    obtain ⟨c2, H⟩ := ko_o H
    obtain ⟨a3, c4, H⟩ := kr_o H
    refine x_getR fr_X12_115 dX12_laysPointer_59 c2 rfl c4 ?_
    refine x_iload_n dX12_laysPointer_62 rfl 1 rfl ?_
    refine x_iload_n dX12_laysPointer_63 rfl 3 rfl ?_
    refine x_iadd dX12_laysPointer_64 ?_
    refine x_aload_n dX12_laysPointer_65 rfl 0 rfl ?_
    obtain ⟨a5, c6, H⟩ := kr_o H
    refine x_getR fr_X12_7 dX12_laysPointer_66 c2 rfl c6 ?_
    refine x_iload_n dX12_laysPointer_69 rfl 2 rfl ?_
    refine x_iconst (v := 1) dX12_laysPointer_70 (by decide) ?_
    refine x_iadd dX12_laysPointer_71 ?_
    refine x_iload_n dX12_laysPointer_72 rfl 3 rfl ?_
    refine x_iadd dX12_laysPointer_73 ?_
    obtain ⟨n8, c7, H⟩ := ka_o H
    obtain ⟨c9, H⟩ := chk_o H
    refine x_iald dX12_laysPointer_74 c7 (inb_in.mp c9) ?_
    obtain ⟨n11, c10, H⟩ := ka_o H
    obtain ⟨c12, H⟩ := chk_o H
    refine x_iast dX12_laysPointer_75 c10 (inb_in.mp c12) ?_
    obtain ⟨v13, ev13, H⟩ := nm_o H
    refine x_iinc (v := v13) (lv' := [(3, .int v13), (0, .ref x0), (1, .int x1), (2, .int x2)]) dX12_laysPointer_76 3 rfl (by decide) ev13 rfl ?_
    refine x_goto (tgt := 52) dX12_laysPointer_79 (by decide) ?_
    refine Ex.sub [1, 2, 3, 0] rfl ?_
    exact hk52 H
def f_X12_laysPointer_52 : Nat → Nat → Int32 → Int32 → Int32 → aH → Option (Unit × aH)
  | 0 => fun _ _ _ _ _ => none
  | n + 1 => b_X12_laysPointer_52 (f_X12_laysPointer_52 n)
set_option maxRecDepth 100000 in
set_option maxHeartbeats 4000000 in
theorem t_X12_laysPointer_52 {Γ : gS} {d : Nat} (hd : 1 ≤ d) (n : Nat) : ∀ {x0 : Nat} {x1 : Int32} {x2 : Int32} {x3 : Int32} {h : aH} {r : Unit} {h' : aH}, f_X12_laysPointer_52 n x0 x1 x2 x3 h = some (r, h') → Ex Γ gX12_laysPointer d 52 [(0, .ref x0), (1, .int x1), (2, .int x2), (3, .int x3)] [] h none h' := by
  induction n with
  | zero => intro x0 x1 x2 x3 h r h' H; cases H
  | succ n ih => intro x0 x1 x2 x3 h r h' H; exact tb_X12_laysPointer_52 hd ih H
def f_X12_laysPointer_23 (x0 : Nat) (x1 : Int32) (x2 : Int32) (h : aH) : Option (Unit × aH) :=
  ko h x0 11 <|
  kr (hR h x0 47) fun a15 =>
  kr (hR h x0 0) fun a17 =>
  ka h a17 .int fun n20 =>
  chk (inb x2 n20 = true) <|
  ka h a15 .int fun n23 =>
  chk (inb x1 n23 = true) <|
  bd (f_X12_twoAt x0 (x2 + 1) (sI h a15 x1.toNatClampNeg (hI h a17 x2.toNatClampNeg))) fun v25 h26 =>
  ka h26 a15 .int fun n29 =>
  chk (inb (x1 + 1) n29 = true) <|
  f_X12_laysPointer_52 FU x0 x1 x2 2 (sI h26 a15 (x1 + 1 : Int32).toNatClampNeg v25)
set_option maxRecDepth 100000 in
set_option maxHeartbeats 4000000 in
theorem t_X12_laysPointer_23 {Γ : gS} {d : Nat} (hd : 1 ≤ d) {x0 : Nat} {x1 : Int32} {x2 : Int32} {h : aH} {r : Unit} {h' : aH} (H : f_X12_laysPointer_23 x0 x1 x2 h = some (r, h')) : Ex Γ gX12_laysPointer d 23 [(0, .ref x0), (1, .int x1), (2, .int x2)] [] h none h' := by
  unfold f_X12_laysPointer_23 at H
  obtain ⟨d, rfl⟩ : ∃ e, d = e + 1 := ⟨d - 1, by omega⟩
  refine x_aload_n dX12_laysPointer_23 rfl 0 rfl ?_
  obtain ⟨c14, H⟩ := ko_o H
  obtain ⟨a15, c16, H⟩ := kr_o H
  refine x_getR fr_X12_115 dX12_laysPointer_24 c14 rfl c16 ?_
  refine x_iload_n dX12_laysPointer_27 rfl 1 rfl ?_
  refine x_aload_n dX12_laysPointer_28 rfl 0 rfl ?_
  obtain ⟨a17, c18, H⟩ := kr_o H
  refine x_getR fr_X12_7 dX12_laysPointer_29 c14 rfl c18 ?_
  refine x_iload_n dX12_laysPointer_32 rfl 2 rfl ?_
  obtain ⟨n20, c19, H⟩ := ka_o H
  obtain ⟨c21, H⟩ := chk_o H
  refine x_iald dX12_laysPointer_33 c19 (inb_in.mp c21) ?_
  obtain ⟨n23, c22, H⟩ := ka_o H
  obtain ⟨c24, H⟩ := chk_o H
  refine x_iast dX12_laysPointer_34 c22 (inb_in.mp c24) ?_
  refine x_aload_n dX12_laysPointer_35 rfl 0 rfl ?_
  refine x_getR fr_X12_115 dX12_laysPointer_36 c14 rfl c16 ?_
  refine x_iload_n dX12_laysPointer_39 rfl 1 rfl ?_
  refine x_iconst (v := 1) dX12_laysPointer_40 (by decide) ?_
  refine x_iadd dX12_laysPointer_41 ?_
  refine x_aload_n dX12_laysPointer_42 rfl 0 rfl ?_
  refine x_iload_n dX12_laysPointer_43 rfl 2 rfl ?_
  refine x_iconst (v := 1) dX12_laysPointer_44 (by decide) ?_
  refine x_iadd dX12_laysPointer_45 ?_
  obtain ⟨v25, h26, hc27, H⟩ := bd_o H
  refine x_callVi (As := [.int (x2 + 1)]) (q := (RX12, TX12, 103)) dX12_laysPointer_46 mi_X12_twoAt lk_X12_681 im_X12_twoAt se_X12_twoAt rfl c14 rfl rfl (Nat.le_of_ble_eq_true rfl) (t_X12_twoAt (by omega) hc27) ?_
  obtain ⟨n29, c28, H⟩ := ka_o H
  obtain ⟨c30, H⟩ := chk_o H
  refine x_iast dX12_laysPointer_49 c28 (inb_in.mp c30) ?_
  refine x_iconst (v := 2) dX12_laysPointer_50 (by decide) ?_
  refine x_istore_n (lv' := [(3, .int 2), (0, .ref x0), (1, .int x1), (2, .int x2)]) dX12_laysPointer_51 rfl (by decide) rfl rfl ?_
  refine Ex.sub [1, 2, 3, 0] rfl ?_
  exact t_X12_laysPointer_52 hd FU H
def f_X12_laysPointer (x0 : Nat) (x1 : Int32) (x2 : Int32) (h : aH) : Option (Unit × aH) :=
  if x1 < 128 then
    f_X12_laysPointer_23 x0 x1 x2 h
  else
    ko h x0 11 <|
    bd (f_X12_isEmptyTold x0 x2 h) fun v32 h33 =>
    if v32 = 0 then
      f_X12_laysPointer_23 x0 x1 x2 h33
    else
      ko h33 x0 11 <|
      kr (hR h33 x0 47) fun a37 =>
      ka h33 a37 .int fun n40 =>
      chk (inb x1 n40 = true) <|
      some ((), sI h33 a37 x1.toNatClampNeg (-1))
set_option maxRecDepth 100000 in
set_option maxHeartbeats 4000000 in
theorem t_X12_laysPointer {Γ : gS} {d : Nat} (hd : 1 ≤ d) {x0 : Nat} {x1 : Int32} {x2 : Int32} {h : aH} {r : Unit} {h' : aH} (H : f_X12_laysPointer x0 x1 x2 h = some (r, h')) : Mx Γ gX12_laysPointer d [.ref x0, .int x1, .int x2] h none h' := by
  refine Mx.of (by decide +kernel) (Nat.le_of_ble_eq_true rfl) ?_
  unfold f_X12_laysPointer at H
  show Ex Γ gX12_laysPointer d 0 [(0, .ref x0), (1, .int x1), (2, .int x2)] [] h none h'
  obtain ⟨d, rfl⟩ : ∃ e, d = e + 1 := ⟨d - 1, by omega⟩
  refine x_iload_n dX12_laysPointer_0 rfl 1 rfl ?_
  refine x_sipush (v := 128) dX12_laysPointer_1 (by decide) ?_
  refine x_icmp_lt (tgt := 23) dX12_laysPointer_4 (by decide) (fun c31 => ?_) (fun c31 => ?_)
  · replace H := ite_p H c31
    exact t_X12_laysPointer_23 hd H
  · replace H := ite_m H c31
    refine x_aload_n dX12_laysPointer_7 rfl 0 rfl ?_
    refine x_iload_n dX12_laysPointer_8 rfl 2 rfl ?_
    obtain ⟨c42, H⟩ := ko_o H
    obtain ⟨v32, h33, hc34, H⟩ := bd_o H
    refine x_callVi (As := [.int x2]) (q := (RX12, TX12, 103)) dX12_laysPointer_9 mi_X12_isEmptyTold lk_X12_684 im_X12_isEmptyTold se_X12_isEmptyTold rfl c42 rfl rfl (Nat.le_of_ble_eq_true rfl) (t_X12_isEmptyTold (by omega) hc34) ?_
    refine x_if_eq (tgt := 23) dX12_laysPointer_12 (by decide) (fun c35 => ?_) (fun c35 => ?_)
    · replace H := ite_p H c35
      exact t_X12_laysPointer_23 hd H
    · replace H := ite_m H c35
      refine x_aload_n dX12_laysPointer_15 rfl 0 rfl ?_
      obtain ⟨c36, H⟩ := ko_o H
      obtain ⟨a37, c38, H⟩ := kr_o H
      refine x_getR fr_X12_115 dX12_laysPointer_16 c36 rfl c38 ?_
      refine x_iload_n dX12_laysPointer_19 rfl 1 rfl ?_
      refine x_iconst (v := (-1)) dX12_laysPointer_20 (by decide) ?_
      obtain ⟨n40, c39, H⟩ := ka_o H
      obtain ⟨c41, H⟩ := chk_o H
      refine x_iast dX12_laysPointer_21 c39 (inb_in.mp c41) ?_
      obtain ⟨-, rfl⟩ := so_1 H
      exact x_vret dX12_laysPointer_22 rfl
def b_X12_on_123 (k123 : Nat → Int32 → aH → Option (Int32 × aH)) (x0 : Nat) (x3 : Int32) (h : aH) : Option (Int32 × aH) :=
  if 1377 ≤ x3 then
    ko h x0 11 <|
    kr (hR h x0 47) fun a3 =>
    ka h a3 .int fun n6 =>
    chk (inb 1377 n6 = true) <|
    some (1, sI (sI h a3 (1377 : Int32).toNatClampNeg 0) x0 63 0)
  else
    ko h x0 11 <|
    kr (hR h x0 47) fun a9 =>
    ka h a9 .int fun n12 =>
    chk (inb x3 n12 = true) <|
    nm (x3 + 1) fun (v14 : Int32) =>
    k123 x0 v14 (sI h a9 x3.toNatClampNeg 0)
set_option maxRecDepth 100000 in
set_option maxHeartbeats 4000000 in
theorem tb_X12_on_123 {Γ : gS} {d : Nat} (hd : 4 ≤ d) {k123 : Nat → Int32 → aH → Option (Int32 × aH)} (hk123 : ∀ {x0 : Nat} {x3 : Int32} {h : aH} {r : Int32} {h' : aH}, k123 x0 x3 h = some (r, h') → Ex Γ gX12_on d 123 [(0, .ref x0), (3, .int x3)] [] h (some (.int r)) h') {x0 : Nat} {x3 : Int32} {h : aH} {r : Int32} {h' : aH} (H : b_X12_on_123 k123 x0 x3 h = some (r, h')) : Ex Γ gX12_on d 123 [(0, .ref x0), (3, .int x3)] [] h (some (.int r)) h' := by
  unfold b_X12_on_123 at H
  obtain ⟨d, rfl⟩ : ∃ e, d = e + 1 := ⟨d - 1, by omega⟩
  refine x_iload_n dX12_on_123 rfl 1 rfl ?_
  refine x_sipush (v := 1377) dX12_on_124 (by decide) ?_
  refine x_icmp_ge (tgt := 143) dX12_on_127 (by decide) (fun c1 => ?_) (fun c1 => ?_)
  · replace H := ite_p H c1
    refine x_aload_n dX12_on_143 rfl 0 rfl ?_
    obtain ⟨c2, H⟩ := ko_o H
    obtain ⟨a3, c4, H⟩ := kr_o H
    refine x_getR fr_X12_115 dX12_on_144 c2 rfl c4 ?_
    refine x_sipush (v := 1377) dX12_on_147 (by decide) ?_
    refine x_iconst (v := 0) dX12_on_150 (by decide) ?_
    obtain ⟨n6, c5, H⟩ := ka_o H
    obtain ⟨c7, H⟩ := chk_o H
    refine x_iast dX12_on_151 c5 (inb_in.mp c7) ?_
    refine x_aload_n dX12_on_152 rfl 0 rfl ?_
    refine x_iconst (v := 0) dX12_on_153 (by decide) ?_
    refine x_putI fl_X12_362 dX12_on_154 c2 (fun e => by cases e) rfl ?_
    refine x_iconst (v := 1) dX12_on_157 (by decide) ?_
    obtain ⟨rfl, rfl⟩ := so_1 H
    exact x_iret dX12_on_158 rfl (by decide)
  · replace H := ite_m H c1
    refine x_aload_n dX12_on_130 rfl 0 rfl ?_
    obtain ⟨c8, H⟩ := ko_o H
    obtain ⟨a9, c10, H⟩ := kr_o H
    refine x_getR fr_X12_115 dX12_on_131 c8 rfl c10 ?_
    refine x_iload_n dX12_on_134 rfl 1 rfl ?_
    refine x_iconst (v := 0) dX12_on_135 (by decide) ?_
    obtain ⟨n12, c11, H⟩ := ka_o H
    obtain ⟨c13, H⟩ := chk_o H
    refine x_iast dX12_on_136 c11 (inb_in.mp c13) ?_
    obtain ⟨v14, ev14, H⟩ := nm_o H
    refine x_iinc (v := v14) (lv' := [(3, .int v14), (0, .ref x0)]) dX12_on_137 1 rfl (by decide) ev14 rfl ?_
    refine x_goto (tgt := 123) dX12_on_140 (by decide) ?_
    refine Ex.sub [1, 0] rfl ?_
    exact hk123 H
def f_X12_on_123 : Nat → Nat → Int32 → aH → Option (Int32 × aH)
  | 0 => fun _ _ _ => none
  | n + 1 => b_X12_on_123 (f_X12_on_123 n)
set_option maxRecDepth 100000 in
set_option maxHeartbeats 4000000 in
theorem t_X12_on_123 {Γ : gS} {d : Nat} (hd : 4 ≤ d) (n : Nat) : ∀ {x0 : Nat} {x3 : Int32} {h : aH} {r : Int32} {h' : aH}, f_X12_on_123 n x0 x3 h = some (r, h') → Ex Γ gX12_on d 123 [(0, .ref x0), (3, .int x3)] [] h (some (.int r)) h' := by
  induction n with
  | zero => intro x0 x3 h r h' H; cases H
  | succ n ih => intro x0 x3 h r h' H; exact tb_X12_on_123 hd ih H
def b_X12_on_79 (k79 : Nat → Int32 → Int32 → aH → Option (Int32 × aH)) (x0 : Nat) (x2 : Int32) (x3 : Int32) (h : aH) : Option (Int32 × aH) :=
  ko h x0 11 <|
  bd (f_X12_objectMany x0 h) fun v15 h16 =>
  if (3 * v15) ≤ x3 then
    f_X12_on_123 FU x0 353 h16
  else
    ko h16 x0 11 <|
    kr (hR h16 x0 47) fun a20 =>
    bd (f_X12_twoAt x0 (((8 * x2) + 1) + (2 * x3)) h16) fun v22 h23 =>
    ka h23 a20 .int fun n26 =>
    chk (inb (257 + x3) n26 = true) <|
    nm (x3 + 1) fun (v28 : Int32) =>
    k79 x0 x2 v28 (sI h23 a20 (257 + x3 : Int32).toNatClampNeg v22)
set_option maxRecDepth 100000 in
set_option maxHeartbeats 4000000 in
theorem tb_X12_on_79 {Γ : gS} {d : Nat} (hd : 4 ≤ d) {k79 : Nat → Int32 → Int32 → aH → Option (Int32 × aH)} (hk79 : ∀ {x0 : Nat} {x2 : Int32} {x3 : Int32} {h : aH} {r : Int32} {h' : aH}, k79 x0 x2 x3 h = some (r, h') → Ex Γ gX12_on d 79 [(0, .ref x0), (2, .int x2), (3, .int x3)] [] h (some (.int r)) h') {x0 : Nat} {x2 : Int32} {x3 : Int32} {h : aH} {r : Int32} {h' : aH} (H : b_X12_on_79 k79 x0 x2 x3 h = some (r, h')) : Ex Γ gX12_on d 79 [(0, .ref x0), (2, .int x2), (3, .int x3)] [] h (some (.int r)) h' := by
  unfold b_X12_on_79 at H
  obtain ⟨d, rfl⟩ : ∃ e, d = e + 1 := ⟨d - 1, by omega⟩
  refine x_iload_n dX12_on_79 rfl 2 rfl ?_
  refine x_iconst (v := 3) dX12_on_80 (by decide) ?_
  refine x_aload_n dX12_on_81 rfl 0 rfl ?_
  obtain ⟨c29, H⟩ := ko_o H
  obtain ⟨v15, h16, hc17, H⟩ := bd_o H
  refine x_callVi (As := []) (q := (RX12, TX12, 103)) dX12_on_82 mi_X12_objectMany lk_X12_425 im_X12_objectMany se_X12_objectMany rfl c29 rfl rfl (Nat.le_of_ble_eq_true rfl) (t_X12_objectMany (by omega) hc17) ?_
  refine x_imul dX12_on_85 ?_
  refine x_icmp_ge (tgt := 119) dX12_on_86 (by decide) (fun c18 => ?_) (fun c18 => ?_)
  · replace H := ite_p H c18
    refine x_sipush (v := 353) dX12_on_119 (by decide) ?_
    refine x_istore_n (lv' := [(3, .int 353), (0, .ref x0), (2, .int x2)]) dX12_on_122 rfl (by decide) rfl rfl ?_
    refine Ex.sub [1, 0] rfl ?_
    exact t_X12_on_123 hd FU H
  · replace H := ite_m H c18
    refine x_aload_n dX12_on_89 rfl 0 rfl ?_
    obtain ⟨c19, H⟩ := ko_o H
    obtain ⟨a20, c21, H⟩ := kr_o H
    refine x_getR fr_X12_115 dX12_on_90 c19 rfl c21 ?_
    refine x_sipush (v := 257) dX12_on_93 (by decide) ?_
    refine x_iload_n dX12_on_96 rfl 2 rfl ?_
    refine x_iadd dX12_on_97 ?_
    refine x_aload_n dX12_on_98 rfl 0 rfl ?_
    refine x_bipush (v := 8) dX12_on_99 (by decide) ?_
    refine x_iload_n dX12_on_101 rfl 1 rfl ?_
    refine x_imul dX12_on_102 ?_
    refine x_iconst (v := 1) dX12_on_103 (by decide) ?_
    refine x_iadd dX12_on_104 ?_
    refine x_iconst (v := 2) dX12_on_105 (by decide) ?_
    refine x_iload_n dX12_on_106 rfl 2 rfl ?_
    refine x_imul dX12_on_107 ?_
    refine x_iadd dX12_on_108 ?_
    obtain ⟨v22, h23, hc24, H⟩ := bd_o H
    refine x_callVi (As := [.int (((8 * x2) + 1) + (2 * x3))]) (q := (RX12, TX12, 103)) dX12_on_109 mi_X12_twoAt lk_X12_681 im_X12_twoAt se_X12_twoAt rfl c19 rfl rfl (Nat.le_of_ble_eq_true rfl) (t_X12_twoAt (by omega) hc24) ?_
    obtain ⟨n26, c25, H⟩ := ka_o H
    obtain ⟨c27, H⟩ := chk_o H
    refine x_iast dX12_on_112 c25 (inb_in.mp c27) ?_
    obtain ⟨v28, ev28, H⟩ := nm_o H
    refine x_iinc (v := v28) (lv' := [(3, .int v28), (0, .ref x0), (2, .int x2)]) dX12_on_113 2 rfl (by decide) ev28 rfl ?_
    refine x_goto (tgt := 79) dX12_on_116 (by decide) ?_
    refine Ex.sub [1, 2, 0] rfl ?_
    exact hk79 H
def f_X12_on_79 : Nat → Nat → Int32 → Int32 → aH → Option (Int32 × aH)
  | 0 => fun _ _ _ _ => none
  | n + 1 => b_X12_on_79 (f_X12_on_79 n)
set_option maxRecDepth 100000 in
set_option maxHeartbeats 4000000 in
theorem t_X12_on_79 {Γ : gS} {d : Nat} (hd : 4 ≤ d) (n : Nat) : ∀ {x0 : Nat} {x2 : Int32} {x3 : Int32} {h : aH} {r : Int32} {h' : aH}, f_X12_on_79 n x0 x2 x3 h = some (r, h') → Ex Γ gX12_on d 79 [(0, .ref x0), (2, .int x2), (3, .int x3)] [] h (some (.int r)) h' := by
  induction n with
  | zero => intro x0 x2 x3 h r h' H; cases H
  | succ n ih => intro x0 x2 x3 h r h' H; exact tb_X12_on_79 hd ih H
def b_X12_on_37 (k37 : Nat → Int32 → Int32 → aH → Option (Int32 × aH)) (x0 : Nat) (x2 : Int32) (x3 : Int32) (h : aH) : Option (Int32 × aH) :=
  if x2 ≤ x3 then
    ko h x0 11 <|
    kr (hR h x0 47) fun a32 =>
    kr (hR h x0 0) fun a34 =>
    ka h a34 .int fun n37 =>
    chk (inb (8 * x2) n37 = true) <|
    ka h a32 .int fun n40 =>
    chk (inb 256 n40 = true) <|
    f_X12_on_79 FU x0 x2 0 (sI h a32 (256 : Int32).toNatClampNeg (hI h a34 (8 * x2 : Int32).toNatClampNeg))
  else
    ko h x0 11 <|
    bd (f_X12_laysPointer x0 (8 * x3) (8 * x3) h) fun _ h43 =>
    nm (x3 + 1) fun (v45 : Int32) =>
    k37 x0 x2 v45 h43
set_option maxRecDepth 100000 in
set_option maxHeartbeats 4000000 in
theorem tb_X12_on_37 {Γ : gS} {d : Nat} (hd : 4 ≤ d) {k37 : Nat → Int32 → Int32 → aH → Option (Int32 × aH)} (hk37 : ∀ {x0 : Nat} {x2 : Int32} {x3 : Int32} {h : aH} {r : Int32} {h' : aH}, k37 x0 x2 x3 h = some (r, h') → Ex Γ gX12_on d 37 [(0, .ref x0), (2, .int x2), (3, .int x3)] [] h (some (.int r)) h') {x0 : Nat} {x2 : Int32} {x3 : Int32} {h : aH} {r : Int32} {h' : aH} (H : b_X12_on_37 k37 x0 x2 x3 h = some (r, h')) : Ex Γ gX12_on d 37 [(0, .ref x0), (2, .int x2), (3, .int x3)] [] h (some (.int r)) h' := by
  unfold b_X12_on_37 at H
  obtain ⟨d, rfl⟩ : ∃ e, d = e + 1 := ⟨d - 1, by omega⟩
  refine x_iload_n dX12_on_37 rfl 2 rfl ?_
  refine x_iload_n dX12_on_38 rfl 1 rfl ?_
  refine x_icmp_ge (tgt := 60) dX12_on_39 (by decide) (fun c30 => ?_) (fun c30 => ?_)
  · replace H := ite_p H c30
    refine x_aload_n dX12_on_60 rfl 0 rfl ?_
    obtain ⟨c31, H⟩ := ko_o H
    obtain ⟨a32, c33, H⟩ := kr_o H
    refine x_getR fr_X12_115 dX12_on_61 c31 rfl c33 ?_
    refine x_sipush (v := 256) dX12_on_64 (by decide) ?_
    refine x_aload_n dX12_on_67 rfl 0 rfl ?_
    obtain ⟨a34, c35, H⟩ := kr_o H
    refine x_getR fr_X12_7 dX12_on_68 c31 rfl c35 ?_
    refine x_bipush (v := 8) dX12_on_71 (by decide) ?_
    refine x_iload_n dX12_on_73 rfl 1 rfl ?_
    refine x_imul dX12_on_74 ?_
    obtain ⟨n37, c36, H⟩ := ka_o H
    obtain ⟨c38, H⟩ := chk_o H
    refine x_iald dX12_on_75 c36 (inb_in.mp c38) ?_
    obtain ⟨n40, c39, H⟩ := ka_o H
    obtain ⟨c41, H⟩ := chk_o H
    refine x_iast dX12_on_76 c39 (inb_in.mp c41) ?_
    refine x_iconst (v := 0) dX12_on_77 (by decide) ?_
    refine x_istore_n (lv' := [(3, .int 0), (0, .ref x0), (2, .int x2)]) dX12_on_78 rfl (by decide) rfl rfl ?_
    refine Ex.sub [1, 2, 0] rfl ?_
    exact t_X12_on_79 hd FU H
  · replace H := ite_m H c30
    refine x_aload_n dX12_on_42 rfl 0 rfl ?_
    refine x_bipush (v := 8) dX12_on_43 (by decide) ?_
    refine x_iload_n dX12_on_45 rfl 2 rfl ?_
    refine x_imul dX12_on_46 ?_
    refine x_bipush (v := 8) dX12_on_47 (by decide) ?_
    refine x_iload_n dX12_on_49 rfl 2 rfl ?_
    refine x_imul dX12_on_50 ?_
    obtain ⟨c46, H⟩ := ko_o H
    obtain ⟨v42, h43, hc44, H⟩ := bd_o H
    refine x_callVv (As := [.int (8 * x3), .int (8 * x3)]) (q := (RX12, TX12, 103)) dX12_on_51 mi_X12_laysPointer lk_X12_696 im_X12_laysPointer se_X12_laysPointer rfl c46 rfl rfl (Nat.le_of_ble_eq_true rfl) (t_X12_laysPointer (by omega) hc44) ?_
    obtain ⟨v45, ev45, H⟩ := nm_o H
    refine x_iinc (v := v45) (lv' := [(3, .int v45), (0, .ref x0), (2, .int x2)]) dX12_on_54 2 rfl (by decide) ev45 rfl ?_
    refine x_goto (tgt := 37) dX12_on_57 (by decide) ?_
    refine Ex.sub [1, 2, 0] rfl ?_
    exact hk37 H
def f_X12_on_37 : Nat → Nat → Int32 → Int32 → aH → Option (Int32 × aH)
  | 0 => fun _ _ _ _ => none
  | n + 1 => b_X12_on_37 (f_X12_on_37 n)
set_option maxRecDepth 100000 in
set_option maxHeartbeats 4000000 in
theorem t_X12_on_37 {Γ : gS} {d : Nat} (hd : 4 ≤ d) (n : Nat) : ∀ {x0 : Nat} {x2 : Int32} {x3 : Int32} {h : aH} {r : Int32} {h' : aH}, f_X12_on_37 n x0 x2 x3 h = some (r, h') → Ex Γ gX12_on d 37 [(0, .ref x0), (2, .int x2), (3, .int x3)] [] h (some (.int r)) h' := by
  induction n with
  | zero => intro x0 x2 x3 h r h' H; cases H
  | succ n ih => intro x0 x2 x3 h r h' H; exact tb_X12_on_37 hd ih H
def f_X12_on (x0 : Nat) (h : aH) : Option (Int32 × aH) :=
  ko h x0 11 <|
  nm (hI h x0 1) fun (v48 : Int32) =>
  bd (f_X12_isImage x0 v48 (sI h x0 1 0)) fun v49 h50 =>
  if v49 = 0 then
    ko h50 x0 11 <|
    bd (f_X12_isRefused x0 7 h50) fun v58 h59 =>
    chk (narrow .boolean (.int v58) = .int v58) <|
    some (v58, h59)
  else
    ko h50 x0 11 <|
    bd (f_X12_shelfMany x0 h50) fun v53 h54 =>
    nm (16 + (4 * v53)) fun (v56 : Int32) =>
    f_X12_on_37 FU x0 v56 0 h54
set_option maxRecDepth 100000 in
set_option maxHeartbeats 4000000 in
theorem t_X12_on {Γ : gS} {d : Nat} (hd : 4 ≤ d) {x0 : Nat} {h : aH} {r : Int32} {h' : aH} (H : f_X12_on x0 h = some (r, h')) : Mx Γ gX12_on d [.ref x0] h (some (.int r)) h' := by
  refine Mx.of (by decide +kernel) (Nat.le_of_ble_eq_true rfl) ?_
  unfold f_X12_on at H
  show Ex Γ gX12_on d 0 [(0, .ref x0)] [] h (some (.int r)) h'
  obtain ⟨d, rfl⟩ : ∃ e, d = e + 1 := ⟨d - 1, by omega⟩
  refine x_aload_n dX12_on_0 rfl 0 rfl ?_
  obtain ⟨c47, H⟩ := ko_o H
  refine x_getI fr_X12_222 dX12_on_1 c47 rfl ?_
  obtain ⟨v48, ev48, H⟩ := nm_o H
  refine x_istore_n (lv' := [(1, .int v48), (0, .ref x0)]) dX12_on_4 rfl (by decide) ev48 rfl ?_
  refine x_aload_n dX12_on_5 rfl 1 rfl ?_
  refine x_iconst (v := 0) dX12_on_6 (by decide) ?_
  refine x_putI fl_X12_222 dX12_on_7 c47 (fun e => by cases e) rfl ?_
  refine x_aload_n dX12_on_10 rfl 1 rfl ?_
  refine x_iload_n dX12_on_11 rfl 0 rfl ?_
  obtain ⟨v49, h50, hc51, H⟩ := bd_o H
  refine x_callVi (As := [.int v48]) (q := (RX12, TX12, 103)) dX12_on_12 mi_X12_isImage lk_X12_693 im_X12_isImage se_X12_isImage rfl c47 rfl rfl (Nat.le_of_ble_eq_true rfl) (t_X12_isImage (by omega) hc51) ?_
  refine x_if_ne (tgt := 25) dX12_on_15 (by decide) (fun c52 => ?_) (fun c52 => ?_)
  · replace H := ite_m H c52
    refine x_bipush (v := 16) dX12_on_25 (by decide) ?_
    refine x_iconst (v := 4) dX12_on_27 (by decide) ?_
    refine x_aload_n dX12_on_28 rfl 1 rfl ?_
    obtain ⟨c57, H⟩ := ko_o H
    obtain ⟨v53, h54, hc55, H⟩ := bd_o H
    refine x_callVi (As := []) (q := (RX12, TX12, 103)) dX12_on_29 mi_X12_shelfMany lk_X12_370 im_X12_shelfMany se_X12_shelfMany rfl c57 rfl rfl (Nat.le_of_ble_eq_true rfl) (t_X12_shelfMany (by omega) hc55) ?_
    refine x_imul dX12_on_32 ?_
    refine x_iadd dX12_on_33 ?_
    obtain ⟨v56, ev56, H⟩ := nm_o H
    refine x_istore_n (lv' := [(2, .int v56), (1, .int v48), (0, .ref x0)]) dX12_on_34 rfl (by decide) ev56 rfl ?_
    refine x_iconst (v := 0) dX12_on_35 (by decide) ?_
    refine x_istore_n (lv' := [(3, .int 0), (2, .int v56), (1, .int v48), (0, .ref x0)]) dX12_on_36 rfl (by decide) rfl rfl ?_
    refine Ex.sub [3, 1, 0] rfl ?_
    exact t_X12_on_37 hd FU H
  · replace H := ite_p H c52
    refine x_aload_n dX12_on_18 rfl 1 rfl ?_
    refine x_bipush (v := 7) dX12_on_19 (by decide) ?_
    obtain ⟨c62, H⟩ := ko_o H
    obtain ⟨v58, h59, hc60, H⟩ := bd_o H
    refine x_callVi (As := [.int 7]) (q := (RX12, TX12, 103)) dX12_on_21 mi_X12_isRefused lk_X12_540 im_X12_isRefused se_X12_isRefused rfl c62 rfl rfl (Nat.le_of_ble_eq_true rfl) (t_X12_isRefused (by omega) hc60) ?_
    obtain ⟨c61, H⟩ := chk_o H
    obtain ⟨rfl, rfl⟩ := so_1 H
    exact x_iret dX12_on_24 rfl c61
