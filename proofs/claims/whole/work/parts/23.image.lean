def f_X3_init (x0 : Nat) (h : aH) : Option (Unit × aH) :=
  nm (hN h) fun (a2 : Nat) =>
  nm (nw h (.inr (.byte, 450)) 450) fun (h1 : aH) =>
  ko h1 x0 3 <|
  some ((), sI (sR h1 x0 0 (some a2)) x0 1 0)
set_option maxRecDepth 100000 in
set_option maxHeartbeats 4000000 in
theorem t_X3_init {Γ : gS} {d : Nat} (hd : 1 ≤ d) {x0 : Nat} {h : aH} {r : Unit} {h' : aH} (H : f_X3_init x0 h = some (r, h')) : Mx Γ gX3_init d [.ref x0] h none h' := by
  refine Mx.of (by decide +kernel) (Nat.le_of_ble_eq_true rfl) ?_
  unfold f_X3_init at H
  show Ex Γ gX3_init d 0 [(0, .ref x0)] [] h none h'
  obtain ⟨d, rfl⟩ : ∃ e, d = e + 1 := ⟨d - 1, by omega⟩
  refine x_aload_n dX3_init_0 rfl 0 rfl ?_
  refine x_oinit dX3_init_1 lk_X3_3 im_obj co_obj (Nat.le_of_ble_eq_true rfl) ?_
  refine x_aload_n dX3_init_4 rfl 0 rfl ?_
  refine x_sipush (v := 450) dX3_init_5 (by decide) ?_
  obtain ⟨a2, ea2, H⟩ := nm_o H
  obtain ⟨h1, eh1, H⟩ := nm_o H
  refine x_newa (t := .byte) (N := 450) dX3_init_8 rfl (by decide) rfl ac_byte (by decide) (by decide) (by decide) ?_
  rw [ea2]
  refine Ex.ren eh1 ?_
  obtain ⟨c3, H⟩ := ko_o H
  refine x_putR fl_X3_13 dX3_init_10 c3 (fun _ => rfl) rfl ?_
  refine x_aload_n dX3_init_13 rfl 0 rfl ?_
  refine x_iconst (v := 0) dX3_init_14 (by decide) ?_
  refine x_putI fl_X3_17 dX3_init_15 c3 (fun e => by cases e) rfl ?_
  obtain ⟨-, rfl⟩ := so_1 H
  exact x_vret dX3_init_18 rfl
def f_X3_add_33 (h : aH) : Option (Unit × aH) :=
  some ((), h)
set_option maxRecDepth 100000 in
set_option maxHeartbeats 4000000 in
theorem t_X3_add_33 {Γ : gS} {d : Nat} (hd : 0 ≤ d) {h : aH} {r : Unit} {h' : aH} (H : f_X3_add_33 h = some (r, h')) : Ex Γ gX3_add d 33 [] [] h none h' := by
  unfold f_X3_add_33 at H
  obtain ⟨-, rfl⟩ := so_1 H
  exact x_vret dX3_add_33 rfl
def f_X3_add (x0 : Nat) (x1 : Int32) (h : aH) : Option (Unit × aH) :=
  ko h x0 3 <|
  kr (hR h x0 0) fun a2 =>
  ka h a2 .byte fun n5 =>
  if (Int32.ofNat n5) ≤ (hI h x0 1) then
    f_X3_add_33 h
  else
    chk (inb (hI h x0 1) n5 = true) <|
    nm (hI (sI h a2 (hI h x0 1 : Int32).toNatClampNeg x1.toInt8.toInt32.toInt8.toInt32) x0 1) fun (v8 : Int32) =>
    f_X3_add_33 (sI (sI h a2 (hI h x0 1 : Int32).toNatClampNeg x1.toInt8.toInt32.toInt8.toInt32) x0 1 (v8 + 1))
set_option maxRecDepth 100000 in
set_option maxHeartbeats 4000000 in
theorem t_X3_add {Γ : gS} {d : Nat} (hd : 0 ≤ d) {x0 : Nat} {x1 : Int32} {h : aH} {r : Unit} {h' : aH} (H : f_X3_add x0 x1 h = some (r, h')) : Mx Γ gX3_add d [.ref x0, .int x1] h none h' := by
  refine Mx.of (by decide +kernel) (Nat.le_of_ble_eq_true rfl) ?_
  unfold f_X3_add at H
  show Ex Γ gX3_add d 0 [(0, .ref x0), (1, .int x1)] [] h none h'
  refine x_aload_n dX3_add_0 rfl 0 rfl ?_
  obtain ⟨c1, H⟩ := ko_o H
  refine x_getI fr_X3_17 dX3_add_1 c1 rfl ?_
  refine x_aload_n dX3_add_4 rfl 0 rfl ?_
  obtain ⟨a2, c3, H⟩ := kr_o H
  refine x_getR fr_X3_13 dX3_add_5 c1 rfl c3 ?_
  obtain ⟨n5, c4, H⟩ := ka_o H
  refine x_alen dX3_add_8 c4 (by decide) ?_
  refine x_icmp_ge (tgt := 33) dX3_add_9 (by decide) (fun c6 => ?_) (fun c6 => ?_)
  · replace H := ite_p H c6
    refine Ex.sub [] rfl ?_
    exact t_X3_add_33 hd H
  · replace H := ite_m H c6
    refine x_aload_n dX3_add_12 rfl 0 rfl ?_
    refine x_getR fr_X3_13 dX3_add_13 c1 rfl c3 ?_
    refine x_aload_n dX3_add_16 rfl 0 rfl ?_
    refine x_getI fr_X3_17 dX3_add_17 c1 rfl ?_
    refine x_iload_n dX3_add_20 rfl 1 rfl ?_
    refine x_i2b dX3_add_21 ?_
    obtain ⟨c7, H⟩ := chk_o H
    refine x_bast dX3_add_22 c4 (inb_in.mp c7) ?_
    refine x_aload_n dX3_add_23 rfl 0 rfl ?_
    refine x_dup dX3_add_24 rfl ?_
    obtain ⟨v8, ev8, H⟩ := nm_o H
    refine x_getIe fr_X3_17 dX3_add_25 c1 rfl ev8 ?_
    refine x_iconst (v := 1) dX3_add_28 (by decide) ?_
    refine x_iadd dX3_add_29 ?_
    refine x_putI fl_X3_17 dX3_add_30 c1 (fun e => by cases e) rfl ?_
    refine Ex.sub [] rfl ?_
    exact t_X3_add_33 hd H
def f_X3_addTwo (x0 : Nat) (x1 : Int32) (h : aH) : Option (Unit × aH) :=
  ko h x0 3 <|
  bd (f_X3_add x0 (x1 >>> (8 &&& 31)) h) fun _ h2 =>
  ko h2 x0 3 <|
  bd (f_X3_add x0 x1 h2) fun _ h5 =>
  some ((), h5)
set_option maxRecDepth 100000 in
set_option maxHeartbeats 4000000 in
theorem t_X3_addTwo {Γ : gS} {d : Nat} (hd : 1 ≤ d) {x0 : Nat} {x1 : Int32} {h : aH} {r : Unit} {h' : aH} (H : f_X3_addTwo x0 x1 h = some (r, h')) : Mx Γ gX3_addTwo d [.ref x0, .int x1] h none h' := by
  refine Mx.of (by decide +kernel) (Nat.le_of_ble_eq_true rfl) ?_
  unfold f_X3_addTwo at H
  show Ex Γ gX3_addTwo d 0 [(0, .ref x0), (1, .int x1)] [] h none h'
  obtain ⟨d, rfl⟩ : ∃ e, d = e + 1 := ⟨d - 1, by omega⟩
  refine x_aload_n dX3_addTwo_0 rfl 0 rfl ?_
  refine x_iload_n dX3_addTwo_1 rfl 1 rfl ?_
  refine x_bipush (v := 8) dX3_addTwo_2 (by decide) ?_
  refine x_ishr dX3_addTwo_4 ?_
  obtain ⟨c8, H⟩ := ko_o H
  obtain ⟨v1, h2, hc3, H⟩ := bd_o H
  refine x_callVv (As := [.int (x1 >>> (8 &&& 31))]) (q := (RX3, TX3, 2)) dX3_addTwo_5 mi_X3_add lk_X3_21 im_X3_add se_X3_add rfl c8 rfl rfl (Nat.le_of_ble_eq_true rfl) (t_X3_add (by omega) hc3) ?_
  refine x_aload_n dX3_addTwo_8 rfl 0 rfl ?_
  refine x_iload_n dX3_addTwo_9 rfl 1 rfl ?_
  obtain ⟨c7, H⟩ := ko_o H
  obtain ⟨v4, h5, hc6, H⟩ := bd_o H
  refine x_callVv (As := [.int x1]) (q := (RX3, TX3, 2)) dX3_addTwo_10 mi_X3_add lk_X3_21 im_X3_add se_X3_add rfl c7 rfl rfl (Nat.le_of_ble_eq_true rfl) (t_X3_add (by omega) hc6) ?_
  obtain ⟨-, rfl⟩ := so_1 H
  exact x_vret dX3_addTwo_13 rfl
def f_X3_cells (x0 : Nat) (h : aH) : Option (Int32 × aH) :=
  ko h x0 4 <|
  bd (f_J9_min_7cf53 32 (16 + (4 * (hI h x0 3))) h) fun v2 h3 =>
  some (v2, h3)
set_option maxRecDepth 100000 in
set_option maxHeartbeats 4000000 in
theorem t_X3_cells {Γ : gS} {d : Nat} (hd : 1 ≤ d) {x0 : Nat} {h : aH} {r : Int32} {h' : aH} (H : f_X3_cells x0 h = some (r, h')) : Mx Γ gX3_cells d [.ref x0] h (some (.int r)) h' := by
  refine Mx.of (by decide +kernel) (Nat.le_of_ble_eq_true rfl) ?_
  unfold f_X3_cells at H
  show Ex Γ gX3_cells d 0 [(0, .ref x0)] [] h (some (.int r)) h'
  obtain ⟨d, rfl⟩ : ∃ e, d = e + 1 := ⟨d - 1, by omega⟩
  refine x_bipush (v := 32) dX3_cells_0 (by decide) ?_
  refine x_bipush (v := 16) dX3_cells_2 (by decide) ?_
  refine x_iconst (v := 4) dX3_cells_4 (by decide) ?_
  refine x_aload_n dX3_cells_5 rfl 0 rfl ?_
  obtain ⟨c1, H⟩ := ko_o H
  refine x_getI fr_X3_84 dX3_cells_6 c1 rfl ?_
  refine x_imul dX3_cells_9 ?_
  refine x_iadd dX3_cells_10 ?_
  obtain ⟨v2, h3, hc4, H⟩ := bd_o H
  refine x_callSi (As := [.int 32, .int (16 + (4 * (hI h x0 3)))]) dX3_cells_11 mi_J9_min_7cf53 lk_X3_89 sm_J9_min_7cf53 rfl rfl (Nat.le_of_ble_eq_true rfl) (t_J9_min_7cf53 (by omega) hc4) ?_
  obtain ⟨rfl, rfl⟩ := so_1 H
  exact x_iret dX3_cells_14 rfl rfl
def f_X3_check_39 (x2 : Int32) (h : aH) : Option (Int32 × aH) :=
  some (x2, h)
set_option maxRecDepth 100000 in
set_option maxHeartbeats 4000000 in
theorem t_X3_check_39 {Γ : gS} {d : Nat} (hd : 0 ≤ d) {x2 : Int32} {h : aH} {r : Int32} {h' : aH} (H : f_X3_check_39 x2 h = some (r, h')) : Ex Γ gX3_check d 39 [(2, .int x2)] [] h (some (.int r)) h' := by
  unfold f_X3_check_39 at H
  refine x_iload_n dX3_check_39 rfl 0 rfl ?_
  obtain ⟨rfl, rfl⟩ := so_1 H
  exact x_iret dX3_check_40 rfl rfl
def b_X3_check_6 (k6 : Nat → Int32 → Int32 → Int32 → aH → Option (Int32 × aH)) (x0 : Nat) (x1 : Int32) (x2 : Int32) (x3 : Int32) (h : aH) : Option (Int32 × aH) :=
  if x1 ≤ x3 then
    f_X3_check_39 x2 h
  else
    ka h x0 .byte fun n3 =>
    if (Int32.ofNat n3) ≤ x3 then
      f_X3_check_39 x2 h
    else
      chk (inb x3 n3 = true) <|
      nm (((3 * x2) + ((hI h x0 x3.toNatClampNeg) &&& 255)) - ((3 * x2) + ((hI h x0 x3.toNatClampNeg) &&& 255)) / 251 * 251) fun (v6 : Int32) =>
      nm (x3 + 1) fun (v7 : Int32) =>
      k6 x0 x1 v6 v7 h
set_option maxRecDepth 100000 in
set_option maxHeartbeats 4000000 in
theorem tb_X3_check_6 {Γ : gS} {d : Nat} (hd : 0 ≤ d) {k6 : Nat → Int32 → Int32 → Int32 → aH → Option (Int32 × aH)} (hk6 : ∀ {x0 : Nat} {x1 : Int32} {x2 : Int32} {x3 : Int32} {h : aH} {r : Int32} {h' : aH}, k6 x0 x1 x2 x3 h = some (r, h') → Ex Γ gX3_check d 6 [(0, .ref x0), (1, .int x1), (2, .int x2), (3, .int x3)] [] h (some (.int r)) h') {x0 : Nat} {x1 : Int32} {x2 : Int32} {x3 : Int32} {h : aH} {r : Int32} {h' : aH} (H : b_X3_check_6 k6 x0 x1 x2 x3 h = some (r, h')) : Ex Γ gX3_check d 6 [(0, .ref x0), (1, .int x1), (2, .int x2), (3, .int x3)] [] h (some (.int r)) h' := by
  unfold b_X3_check_6 at H
  refine x_iload_n dX3_check_6 rfl 3 rfl ?_
  refine x_iload_n dX3_check_7 rfl 1 rfl ?_
  refine x_icmp_ge (tgt := 39) dX3_check_8 (by decide) (fun c1 => ?_) (fun c1 => ?_)
  · replace H := ite_p H c1
    refine Ex.sub [2] rfl ?_
    exact t_X3_check_39 hd H
  · replace H := ite_m H c1
    refine x_iload_n dX3_check_11 rfl 3 rfl ?_
    refine x_aload_n dX3_check_12 rfl 0 rfl ?_
    obtain ⟨n3, c2, H⟩ := ka_o H
    refine x_alen dX3_check_13 c2 (by decide) ?_
    refine x_icmp_ge (tgt := 39) dX3_check_14 (by decide) (fun c4 => ?_) (fun c4 => ?_)
    · replace H := ite_p H c4
      refine Ex.sub [2] rfl ?_
      exact t_X3_check_39 hd H
    · replace H := ite_m H c4
      refine x_iconst (v := 3) dX3_check_17 (by decide) ?_
      refine x_iload_n dX3_check_18 rfl 2 rfl ?_
      refine x_imul dX3_check_19 ?_
      refine x_aload_n dX3_check_20 rfl 0 rfl ?_
      refine x_iload_n dX3_check_21 rfl 3 rfl ?_
      obtain ⟨c5, H⟩ := chk_o H
      refine x_bald dX3_check_22 c2 (inb_in.mp c5) ?_
      refine x_sipush (v := 255) dX3_check_23 (by decide) ?_
      refine x_iand dX3_check_26 ?_
      refine x_iadd dX3_check_27 ?_
      refine x_sipush (v := 251) dX3_check_28 (by decide) ?_
      refine x_irem dX3_check_31 (by decide) ?_
      obtain ⟨v6, ev6, H⟩ := nm_o H
      refine x_istore_n (lv' := [(2, .int v6), (0, .ref x0), (1, .int x1), (3, .int x3)]) dX3_check_32 rfl (by decide) ev6 rfl ?_
      obtain ⟨v7, ev7, H⟩ := nm_o H
      refine x_iinc (v := v7) (lv' := [(3, .int v7), (2, .int v6), (0, .ref x0), (1, .int x1)]) dX3_check_33 3 rfl (by decide) ev7 rfl ?_
      refine x_goto (tgt := 6) dX3_check_36 (by decide) ?_
      refine Ex.sub [2, 3, 1, 0] rfl ?_
      exact hk6 H
def f_X3_check_6 : Nat → Nat → Int32 → Int32 → Int32 → aH → Option (Int32 × aH)
  | 0 => fun _ _ _ _ _ => none
  | n + 1 => b_X3_check_6 (f_X3_check_6 n)
set_option maxRecDepth 100000 in
set_option maxHeartbeats 4000000 in
theorem t_X3_check_6 {Γ : gS} {d : Nat} (hd : 0 ≤ d) (n : Nat) : ∀ {x0 : Nat} {x1 : Int32} {x2 : Int32} {x3 : Int32} {h : aH} {r : Int32} {h' : aH}, f_X3_check_6 n x0 x1 x2 x3 h = some (r, h') → Ex Γ gX3_check d 6 [(0, .ref x0), (1, .int x1), (2, .int x2), (3, .int x3)] [] h (some (.int r)) h' := by
  induction n with
  | zero => intro x0 x1 x2 x3 h r h' H; cases H
  | succ n ih => intro x0 x1 x2 x3 h r h' H; exact tb_X3_check_6 hd ih H
def f_X3_check (x0 : Nat) (x1 : Int32) (h : aH) : Option (Int32 × aH) :=
  f_X3_check_6 FU x0 x1 149 0 h
set_option maxRecDepth 100000 in
set_option maxHeartbeats 4000000 in
theorem t_X3_check {Γ : gS} {d : Nat} (hd : 0 ≤ d) {x0 : Nat} {x1 : Int32} {h : aH} {r : Int32} {h' : aH} (H : f_X3_check x0 x1 h = some (r, h')) : Mx Γ gX3_check d [.ref x0, .int x1] h (some (.int r)) h' := by
  refine Mx.of (by decide +kernel) (Nat.le_of_ble_eq_true rfl) ?_
  unfold f_X3_check at H
  show Ex Γ gX3_check d 0 [(0, .ref x0), (1, .int x1)] [] h (some (.int r)) h'
  refine x_sipush (v := 149) dX3_check_0 (by decide) ?_
  refine x_istore_n (lv' := [(2, .int 149), (0, .ref x0), (1, .int x1)]) dX3_check_3 rfl (by decide) rfl rfl ?_
  refine x_iconst (v := 0) dX3_check_4 (by decide) ?_
  refine x_istore_n (lv' := [(3, .int 0), (2, .int 149), (0, .ref x0), (1, .int x1)]) dX3_check_5 rfl (by decide) rfl rfl ?_
  refine Ex.sub [2, 3, 1, 0] rfl ?_
  exact t_X3_check_6 hd FU H
def b_X3_writeCell_9 (k9 : Nat → Int32 → aH → Option (Unit × aH)) (x0 : Nat) (x2 : Int32) (h : aH) : Option (Unit × aH) :=
  if 8 ≤ x2 then
    some ((), h)
  else
    ko h x0 3 <|
    bd (f_X3_add x0 255 h) fun _ h3 =>
    nm (x2 + 1) fun (v5 : Int32) =>
    k9 x0 v5 h3
set_option maxRecDepth 100000 in
set_option maxHeartbeats 4000000 in
theorem tb_X3_writeCell_9 {Γ : gS} {d : Nat} (hd : 2 ≤ d) {k9 : Nat → Int32 → aH → Option (Unit × aH)} (hk9 : ∀ {x0 : Nat} {x2 : Int32} {h : aH} {r : Unit} {h' : aH}, k9 x0 x2 h = some (r, h') → Ex Γ gX3_writeCell d 9 [(0, .ref x0), (2, .int x2)] [] h none h') {x0 : Nat} {x2 : Int32} {h : aH} {r : Unit} {h' : aH} (H : b_X3_writeCell_9 k9 x0 x2 h = some (r, h')) : Ex Γ gX3_writeCell d 9 [(0, .ref x0), (2, .int x2)] [] h none h' := by
  unfold b_X3_writeCell_9 at H
  obtain ⟨d, rfl⟩ : ∃ e, d = e + 1 := ⟨d - 1, by omega⟩
  refine x_iload_n dX3_writeCell_9 rfl 1 rfl ?_
  refine x_bipush (v := 8) dX3_writeCell_10 (by decide) ?_
  refine x_icmp_ge (tgt := 28) dX3_writeCell_12 (by decide) (fun c1 => ?_) (fun c1 => ?_)
  · replace H := ite_p H c1
    obtain ⟨-, rfl⟩ := so_1 H
    exact x_vret dX3_writeCell_28 rfl
  · replace H := ite_m H c1
    refine x_aload_n dX3_writeCell_15 rfl 0 rfl ?_
    refine x_sipush (v := 255) dX3_writeCell_16 (by decide) ?_
    obtain ⟨c6, H⟩ := ko_o H
    obtain ⟨v2, h3, hc4, H⟩ := bd_o H
    refine x_callVv (As := [.int 255]) (q := (RX3, TX3, 2)) dX3_writeCell_19 mi_X3_add lk_X3_21 im_X3_add se_X3_add rfl c6 rfl rfl (Nat.le_of_ble_eq_true rfl) (t_X3_add (by omega) hc4) ?_
    obtain ⟨v5, ev5, H⟩ := nm_o H
    refine x_iinc (v := v5) (lv' := [(2, .int v5), (0, .ref x0)]) dX3_writeCell_22 1 rfl (by decide) ev5 rfl ?_
    refine x_goto (tgt := 9) dX3_writeCell_25 (by decide) ?_
    refine Ex.sub [1, 0] rfl ?_
    exact hk9 H
def f_X3_writeCell_9 : Nat → Nat → Int32 → aH → Option (Unit × aH)
  | 0 => fun _ _ _ => none
  | n + 1 => b_X3_writeCell_9 (f_X3_writeCell_9 n)
set_option maxRecDepth 100000 in
set_option maxHeartbeats 4000000 in
theorem t_X3_writeCell_9 {Γ : gS} {d : Nat} (hd : 2 ≤ d) (n : Nat) : ∀ {x0 : Nat} {x2 : Int32} {h : aH} {r : Unit} {h' : aH}, f_X3_writeCell_9 n x0 x2 h = some (r, h') → Ex Γ gX3_writeCell d 9 [(0, .ref x0), (2, .int x2)] [] h none h' := by
  induction n with
  | zero => intro x0 x2 h r h' H; cases H
  | succ n ih => intro x0 x2 h r h' H; exact tb_X3_writeCell_9 hd ih H
def f_X3_writeCell_42 (x0 : Nat) (x1 : Nat) (s0 : Nat) (s1 : Int32) (h : aH) : Option (Unit × aH) :=
  ko h s0 3 <|
  bd (f_X3_add s0 s1 h) fun _ h8 =>
  ko h8 x1 6 <|
  ko h8 x0 3 <|
  bd (f_X3_addTwo x0 (hI h8 x1 2) h8) fun _ h12 =>
  ko h12 x1 6 <|
  ko h12 x0 3 <|
  bd (f_X3_add x0 (hI h12 x1 3) h12) fun _ h16 =>
  ko h16 x1 6 <|
  ko h16 x0 3 <|
  bd (f_X3_add x0 (hI h16 x1 4) h16) fun _ h20 =>
  ko h20 x1 6 <|
  ko h20 x0 3 <|
  bd (f_X3_add x0 (hI h20 x1 5) h20) fun _ h24 =>
  ko h24 x1 6 <|
  ko h24 x0 3 <|
  bd (f_X3_add x0 (hI h24 x1 6) h24) fun _ h28 =>
  ko h28 x1 6 <|
  ko h28 x0 3 <|
  bd (f_X3_add x0 (hI h28 x1 7) h28) fun _ h32 =>
  some ((), h32)
set_option maxRecDepth 100000 in
set_option maxHeartbeats 4000000 in
theorem t_X3_writeCell_42 {Γ : gS} {d : Nat} (hd : 2 ≤ d) {x0 : Nat} {x1 : Nat} {s0 : Nat} {s1 : Int32} {h : aH} {r : Unit} {h' : aH} (H : f_X3_writeCell_42 x0 x1 s0 s1 h = some (r, h')) : Ex Γ gX3_writeCell d 42 [(0, .ref x0), (1, .ref x1)] [.int s1, .ref s0] h none h' := by
  unfold f_X3_writeCell_42 at H
  obtain ⟨d, rfl⟩ : ∃ e, d = e + 1 := ⟨d - 1, by omega⟩
  obtain ⟨c40, H⟩ := ko_o H
  obtain ⟨v7, h8, hc9, H⟩ := bd_o H
  refine x_callVv (As := [.int s1]) (q := (RX3, TX3, 2)) dX3_writeCell_42 mi_X3_add lk_X3_21 im_X3_add se_X3_add rfl c40 rfl rfl (Nat.le_of_ble_eq_true rfl) (t_X3_add (by omega) hc9) ?_
  refine x_aload_n dX3_writeCell_45 rfl 0 rfl ?_
  refine x_aload_n dX3_writeCell_46 rfl 1 rfl ?_
  obtain ⟨c10, H⟩ := ko_o H
  refine x_getI fr_X3_66 dX3_writeCell_47 c10 rfl ?_
  obtain ⟨c39, H⟩ := ko_o H
  obtain ⟨v11, h12, hc13, H⟩ := bd_o H
  refine x_callVv (As := [.int (hI h8 x1 2)]) (q := (RX3, TX3, 2)) dX3_writeCell_50 mi_X3_addTwo lk_X3_44 im_X3_addTwo se_X3_addTwo rfl c39 rfl rfl (Nat.le_of_ble_eq_true rfl) (t_X3_addTwo (by omega) hc13) ?_
  refine x_aload_n dX3_writeCell_53 rfl 0 rfl ?_
  refine x_aload_n dX3_writeCell_54 rfl 1 rfl ?_
  obtain ⟨c14, H⟩ := ko_o H
  refine x_getI fr_X3_69 dX3_writeCell_55 c14 rfl ?_
  obtain ⟨c38, H⟩ := ko_o H
  obtain ⟨v15, h16, hc17, H⟩ := bd_o H
  refine x_callVv (As := [.int (hI h12 x1 3)]) (q := (RX3, TX3, 2)) dX3_writeCell_58 mi_X3_add lk_X3_21 im_X3_add se_X3_add rfl c38 rfl rfl (Nat.le_of_ble_eq_true rfl) (t_X3_add (by omega) hc17) ?_
  refine x_aload_n dX3_writeCell_61 rfl 0 rfl ?_
  refine x_aload_n dX3_writeCell_62 rfl 1 rfl ?_
  obtain ⟨c18, H⟩ := ko_o H
  refine x_getI fr_X3_72 dX3_writeCell_63 c18 rfl ?_
  obtain ⟨c37, H⟩ := ko_o H
  obtain ⟨v19, h20, hc21, H⟩ := bd_o H
  refine x_callVv (As := [.int (hI h16 x1 4)]) (q := (RX3, TX3, 2)) dX3_writeCell_66 mi_X3_add lk_X3_21 im_X3_add se_X3_add rfl c37 rfl rfl (Nat.le_of_ble_eq_true rfl) (t_X3_add (by omega) hc21) ?_
  refine x_aload_n dX3_writeCell_69 rfl 0 rfl ?_
  refine x_aload_n dX3_writeCell_70 rfl 1 rfl ?_
  obtain ⟨c22, H⟩ := ko_o H
  refine x_getI fr_X3_75 dX3_writeCell_71 c22 rfl ?_
  obtain ⟨c36, H⟩ := ko_o H
  obtain ⟨v23, h24, hc25, H⟩ := bd_o H
  refine x_callVv (As := [.int (hI h20 x1 5)]) (q := (RX3, TX3, 2)) dX3_writeCell_74 mi_X3_add lk_X3_21 im_X3_add se_X3_add rfl c36 rfl rfl (Nat.le_of_ble_eq_true rfl) (t_X3_add (by omega) hc25) ?_
  refine x_aload_n dX3_writeCell_77 rfl 0 rfl ?_
  refine x_aload_n dX3_writeCell_78 rfl 1 rfl ?_
  obtain ⟨c26, H⟩ := ko_o H
  refine x_getI fr_X3_78 dX3_writeCell_79 c26 rfl ?_
  obtain ⟨c35, H⟩ := ko_o H
  obtain ⟨v27, h28, hc29, H⟩ := bd_o H
  refine x_callVv (As := [.int (hI h24 x1 6)]) (q := (RX3, TX3, 2)) dX3_writeCell_82 mi_X3_add lk_X3_21 im_X3_add se_X3_add rfl c35 rfl rfl (Nat.le_of_ble_eq_true rfl) (t_X3_add (by omega) hc29) ?_
  refine x_aload_n dX3_writeCell_85 rfl 0 rfl ?_
  refine x_aload_n dX3_writeCell_86 rfl 1 rfl ?_
  obtain ⟨c30, H⟩ := ko_o H
  refine x_getI fr_X3_81 dX3_writeCell_87 c30 rfl ?_
  obtain ⟨c34, H⟩ := ko_o H
  obtain ⟨v31, h32, hc33, H⟩ := bd_o H
  refine x_callVv (As := [.int (hI h28 x1 7)]) (q := (RX3, TX3, 2)) dX3_writeCell_90 mi_X3_add lk_X3_21 im_X3_add se_X3_add rfl c34 rfl rfl (Nat.le_of_ble_eq_true rfl) (t_X3_add (by omega) hc33) ?_
  obtain ⟨-, rfl⟩ := so_1 H
  exact x_vret dX3_writeCell_93 rfl
def f_X3_writeCell (x0 : Nat) (x1 : Nat) (h : aH) : Option (Unit × aH) :=
  ko h x1 6 <|
  if (hI h x1 0) = 0 then
    f_X3_writeCell_9 FU x0 0 h
  else
    if (hI h x1 1) = 0 then
      f_X3_writeCell_42 x0 x1 x0 0 h
    else
      f_X3_writeCell_42 x0 x1 x0 1 h
set_option maxRecDepth 100000 in
set_option maxHeartbeats 4000000 in
theorem t_X3_writeCell {Γ : gS} {d : Nat} (hd : 2 ≤ d) {x0 : Nat} {x1 : Nat} {h : aH} {r : Unit} {h' : aH} (H : f_X3_writeCell x0 x1 h = some (r, h')) : Mx Γ gX3_writeCell d [.ref x0, .ref x1] h none h' := by
  refine Mx.of (by decide +kernel) (Nat.le_of_ble_eq_true rfl) ?_
  unfold f_X3_writeCell at H
  show Ex Γ gX3_writeCell d 0 [(0, .ref x0), (1, .ref x1)] [] h none h'
  obtain ⟨d, rfl⟩ : ∃ e, d = e + 1 := ⟨d - 1, by omega⟩
  refine x_aload_n dX3_writeCell_0 rfl 1 rfl ?_
  obtain ⟨c41, H⟩ := ko_o H
  refine x_getI fr_X3_57 dX3_writeCell_1 c41 rfl ?_
  refine x_if_ne (tgt := 29) dX3_writeCell_4 (by decide) (fun c42 => ?_) (fun c42 => ?_)
  · replace H := ite_m H c42
    refine x_aload_n dX3_writeCell_29 rfl 0 rfl ?_
    refine x_aload_n dX3_writeCell_30 rfl 1 rfl ?_
    refine x_getI fr_X3_63 dX3_writeCell_31 c41 rfl ?_
    refine x_if_eq (tgt := 41) dX3_writeCell_34 (by decide) (fun c43 => ?_) (fun c43 => ?_)
    · replace H := ite_p H c43
      refine x_iconst (v := 0) dX3_writeCell_41 (by decide) ?_
      exact t_X3_writeCell_42 hd H
    · replace H := ite_m H c43
      refine x_iconst (v := 1) dX3_writeCell_37 (by decide) ?_
      refine x_goto (tgt := 42) dX3_writeCell_38 (by decide) ?_
      exact t_X3_writeCell_42 hd H
  · replace H := ite_p H c42
    refine x_iconst (v := 0) dX3_writeCell_7 (by decide) ?_
    refine x_istore_n (lv' := [(2, .int 0), (0, .ref x0), (1, .ref x1)]) dX3_writeCell_8 rfl (by decide) rfl rfl ?_
    refine Ex.sub [1, 0] rfl ?_
    exact t_X3_writeCell_9 hd FU H
def b_X3_write_41 (k41 : Nat → Nat → Int32 → aH → Option (Unit × aH)) (x0 : Nat) (x1 : Nat) (x3 : Int32) (h : aH) : Option (Unit × aH) :=
  ko h x1 9 <|
  if (hI h x1 6) ≤ x3 then
    ko h x0 3 <|
    kr (hR h x0 0) fun a4 =>
    bd (f_X3_check a4 (hI h x0 1) h) fun v6 h7 =>
    ko h7 x0 3 <|
    bd (f_X3_add x0 v6 h7) fun _ h10 =>
    some ((), h10)
  else
    kr (hR h x1 1) fun a13 =>
    ka h a13 .int fun n16 =>
    chk (inb x3 n16 = true) <|
    ko h x0 3 <|
    bd (f_X3_addTwo x0 (hI h a13 x3.toNatClampNeg) h) fun _ h19 =>
    ko h19 x1 9 <|
    kr (hR h19 x1 2) fun a22 =>
    ka h19 a22 .int fun n25 =>
    chk (inb x3 n25 = true) <|
    ko h19 x0 3 <|
    bd (f_X3_addTwo x0 (hI h19 a22 x3.toNatClampNeg) h19) fun _ h28 =>
    ko h28 x1 9 <|
    kr (hR h28 x1 3) fun a31 =>
    ka h28 a31 .int fun n34 =>
    chk (inb x3 n34 = true) <|
    ko h28 x0 3 <|
    bd (f_X3_addTwo x0 (hI h28 a31 x3.toNatClampNeg) h28) fun _ h37 =>
    nm (x3 + 1) fun (v39 : Int32) =>
    k41 x0 x1 v39 h37
set_option maxRecDepth 100000 in
set_option maxHeartbeats 4000000 in
theorem tb_X3_write_41 {Γ : gS} {d : Nat} (hd : 3 ≤ d) {k41 : Nat → Nat → Int32 → aH → Option (Unit × aH)} (hk41 : ∀ {x0 : Nat} {x1 : Nat} {x3 : Int32} {h : aH} {r : Unit} {h' : aH}, k41 x0 x1 x3 h = some (r, h') → Ex Γ gX3_write d 41 [(0, .ref x0), (1, .ref x1), (3, .int x3)] [] h none h') {x0 : Nat} {x1 : Nat} {x3 : Int32} {h : aH} {r : Unit} {h' : aH} (H : b_X3_write_41 k41 x0 x1 x3 h = some (r, h')) : Ex Γ gX3_write d 41 [(0, .ref x0), (1, .ref x1), (3, .int x3)] [] h none h' := by
  unfold b_X3_write_41 at H
  obtain ⟨d, rfl⟩ : ∃ e, d = e + 1 := ⟨d - 1, by omega⟩
  refine x_iload_n dX3_write_41 rfl 2 rfl ?_
  refine x_aload_n dX3_write_42 rfl 1 rfl ?_
  obtain ⟨c1, H⟩ := ko_o H
  refine x_getI fr_X3_37 dX3_write_43 c1 rfl ?_
  refine x_icmp_ge (tgt := 85) dX3_write_46 (by decide) (fun c2 => ?_) (fun c2 => ?_)
  · replace H := ite_p H c2
    refine x_aload_n dX3_write_85 rfl 0 rfl ?_
    refine x_aload_n dX3_write_86 rfl 0 rfl ?_
    obtain ⟨c3, H⟩ := ko_o H
    obtain ⟨a4, c5, H⟩ := kr_o H
    refine x_getR fr_X3_13 dX3_write_87 c3 rfl c5 ?_
    refine x_aload_n dX3_write_90 rfl 0 rfl ?_
    refine x_getI fr_X3_17 dX3_write_91 c3 rfl ?_
    obtain ⟨v6, h7, hc8, H⟩ := bd_o H
    refine x_callSi (As := [.ref a4, .int (hI h x0 1)]) dX3_write_94 mi_X3_check lk_X3_53 sm_X3_check rfl rfl (Nat.le_of_ble_eq_true rfl) (t_X3_check (by omega) hc8) ?_
    obtain ⟨c12, H⟩ := ko_o H
    obtain ⟨v9, h10, hc11, H⟩ := bd_o H
    refine x_callVv (As := [.int v6]) (q := (RX3, TX3, 2)) dX3_write_97 mi_X3_add lk_X3_21 im_X3_add se_X3_add rfl c12 rfl rfl (Nat.le_of_ble_eq_true rfl) (t_X3_add (by omega) hc11) ?_
    obtain ⟨-, rfl⟩ := so_1 H
    exact x_vret dX3_write_100 rfl
  · replace H := ite_m H c2
    refine x_aload_n dX3_write_49 rfl 0 rfl ?_
    refine x_aload_n dX3_write_50 rfl 1 rfl ?_
    obtain ⟨a13, c14, H⟩ := kr_o H
    refine x_getR fr_X3_40 dX3_write_51 c1 rfl c14 ?_
    refine x_iload_n dX3_write_54 rfl 2 rfl ?_
    obtain ⟨n16, c15, H⟩ := ka_o H
    obtain ⟨c17, H⟩ := chk_o H
    refine x_iald dX3_write_55 c15 (inb_in.mp c17) ?_
    obtain ⟨c42, H⟩ := ko_o H
    obtain ⟨v18, h19, hc20, H⟩ := bd_o H
    refine x_callVv (As := [.int (hI h a13 x3.toNatClampNeg)]) (q := (RX3, TX3, 2)) dX3_write_56 mi_X3_addTwo lk_X3_44 im_X3_addTwo se_X3_addTwo rfl c42 rfl rfl (Nat.le_of_ble_eq_true rfl) (t_X3_addTwo (by omega) hc20) ?_
    refine x_aload_n dX3_write_59 rfl 0 rfl ?_
    refine x_aload_n dX3_write_60 rfl 1 rfl ?_
    obtain ⟨c21, H⟩ := ko_o H
    obtain ⟨a22, c23, H⟩ := kr_o H
    refine x_getR fr_X3_47 dX3_write_61 c21 rfl c23 ?_
    refine x_iload_n dX3_write_64 rfl 2 rfl ?_
    obtain ⟨n25, c24, H⟩ := ka_o H
    obtain ⟨c26, H⟩ := chk_o H
    refine x_iald dX3_write_65 c24 (inb_in.mp c26) ?_
    obtain ⟨c41, H⟩ := ko_o H
    obtain ⟨v27, h28, hc29, H⟩ := bd_o H
    refine x_callVv (As := [.int (hI h19 a22 x3.toNatClampNeg)]) (q := (RX3, TX3, 2)) dX3_write_66 mi_X3_addTwo lk_X3_44 im_X3_addTwo se_X3_addTwo rfl c41 rfl rfl (Nat.le_of_ble_eq_true rfl) (t_X3_addTwo (by omega) hc29) ?_
    refine x_aload_n dX3_write_69 rfl 0 rfl ?_
    refine x_aload_n dX3_write_70 rfl 1 rfl ?_
    obtain ⟨c30, H⟩ := ko_o H
    obtain ⟨a31, c32, H⟩ := kr_o H
    refine x_getR fr_X3_50 dX3_write_71 c30 rfl c32 ?_
    refine x_iload_n dX3_write_74 rfl 2 rfl ?_
    obtain ⟨n34, c33, H⟩ := ka_o H
    obtain ⟨c35, H⟩ := chk_o H
    refine x_iald dX3_write_75 c33 (inb_in.mp c35) ?_
    obtain ⟨c40, H⟩ := ko_o H
    obtain ⟨v36, h37, hc38, H⟩ := bd_o H
    refine x_callVv (As := [.int (hI h28 a31 x3.toNatClampNeg)]) (q := (RX3, TX3, 2)) dX3_write_76 mi_X3_addTwo lk_X3_44 im_X3_addTwo se_X3_addTwo rfl c40 rfl rfl (Nat.le_of_ble_eq_true rfl) (t_X3_addTwo (by omega) hc38) ?_
    obtain ⟨v39, ev39, H⟩ := nm_o H
    refine x_iinc (v := v39) (lv' := [(3, .int v39), (0, .ref x0), (1, .ref x1)]) dX3_write_79 2 rfl (by decide) ev39 rfl ?_
    refine x_goto (tgt := 41) dX3_write_82 (by decide) ?_
    refine Ex.sub [1, 2, 0] rfl ?_
    exact hk41 H
def f_X3_write_41 : Nat → Nat → Nat → Int32 → aH → Option (Unit × aH)
  | 0 => fun _ _ _ _ => none
  | n + 1 => b_X3_write_41 (f_X3_write_41 n)
set_option maxRecDepth 100000 in
set_option maxHeartbeats 4000000 in
theorem t_X3_write_41 {Γ : gS} {d : Nat} (hd : 3 ≤ d) (n : Nat) : ∀ {x0 : Nat} {x1 : Nat} {x3 : Int32} {h : aH} {r : Unit} {h' : aH}, f_X3_write_41 n x0 x1 x3 h = some (r, h') → Ex Γ gX3_write d 41 [(0, .ref x0), (1, .ref x1), (3, .int x3)] [] h none h' := by
  induction n with
  | zero => intro x0 x1 x3 h r h' H; cases H
  | succ n ih => intro x0 x1 x3 h r h' H; exact tb_X3_write_41 hd ih H
def b_X3_write_7 (k7 : Nat → Nat → Nat → Int32 → aH → Option (Unit × aH)) (x0 : Nat) (x1 : Nat) (x2 : Nat) (x3 : Int32) (h : aH) : Option (Unit × aH) :=
  bd (f_X3_cells x2 h) fun v43 h44 =>
  if v43 ≤ x3 then
    ko h44 x1 9 <|
    ko h44 x0 3 <|
    bd (f_X3_add x0 (hI h44 x1 6) h44) fun _ h49 =>
    f_X3_write_41 FU x0 x1 0 h49
  else
    ko h44 x1 9 <|
    kr (hR h44 x1 0) fun a53 =>
    ka h44 a53 (.object RX6) fun n56 =>
    chk (inb x3 n56 = true) <|
    kr (hR h44 a53 x3.toNatClampNeg) fun a58 =>
    ko h44 x0 3 <|
    bd (f_X3_writeCell x0 a58 h44) fun _ h61 =>
    nm (x3 + 1) fun (v63 : Int32) =>
    k7 x0 x1 x2 v63 h61
set_option maxRecDepth 100000 in
set_option maxHeartbeats 4000000 in
theorem tb_X3_write_7 {Γ : gS} {d : Nat} (hd : 3 ≤ d) {k7 : Nat → Nat → Nat → Int32 → aH → Option (Unit × aH)} (hk7 : ∀ {x0 : Nat} {x1 : Nat} {x2 : Nat} {x3 : Int32} {h : aH} {r : Unit} {h' : aH}, k7 x0 x1 x2 x3 h = some (r, h') → Ex Γ gX3_write d 7 [(0, .ref x0), (1, .ref x1), (2, .ref x2), (3, .int x3)] [] h none h') {x0 : Nat} {x1 : Nat} {x2 : Nat} {x3 : Int32} {h : aH} {r : Unit} {h' : aH} (H : b_X3_write_7 k7 x0 x1 x2 x3 h = some (r, h')) : Ex Γ gX3_write d 7 [(0, .ref x0), (1, .ref x1), (2, .ref x2), (3, .int x3)] [] h none h' := by
  unfold b_X3_write_7 at H
  obtain ⟨d, rfl⟩ : ∃ e, d = e + 1 := ⟨d - 1, by omega⟩
  refine x_iload_n dX3_write_7 rfl 3 rfl ?_
  refine x_aload_n dX3_write_8 rfl 2 rfl ?_
  obtain ⟨v43, h44, hc45, H⟩ := bd_o H
  refine x_callSi (As := [.ref x2]) dX3_write_9 mi_X3_cells lk_X3_25 sm_X3_cells rfl rfl (Nat.le_of_ble_eq_true rfl) (t_X3_cells (by omega) hc45) ?_
  refine x_icmp_ge (tgt := 31) dX3_write_12 (by decide) (fun c46 => ?_) (fun c46 => ?_)
  · replace H := ite_p H c46
    refine x_aload_n dX3_write_31 rfl 0 rfl ?_
    refine x_aload_n dX3_write_32 rfl 1 rfl ?_
    obtain ⟨c47, H⟩ := ko_o H
    refine x_getI fr_X3_37 dX3_write_33 c47 rfl ?_
    obtain ⟨c51, H⟩ := ko_o H
    obtain ⟨v48, h49, hc50, H⟩ := bd_o H
    refine x_callVv (As := [.int (hI h44 x1 6)]) (q := (RX3, TX3, 2)) dX3_write_36 mi_X3_add lk_X3_21 im_X3_add se_X3_add rfl c51 rfl rfl (Nat.le_of_ble_eq_true rfl) (t_X3_add (by omega) hc50) ?_
    refine x_iconst (v := 0) dX3_write_39 (by decide) ?_
    refine x_istore_n (lv' := [(3, .int 0), (0, .ref x0), (1, .ref x1), (2, .ref x2)]) dX3_write_40 rfl (by decide) rfl rfl ?_
    refine Ex.sub [1, 2, 0] rfl ?_
    exact t_X3_write_41 hd FU H
  · replace H := ite_m H c46
    refine x_aload_n dX3_write_15 rfl 0 rfl ?_
    refine x_aload_n dX3_write_16 rfl 1 rfl ?_
    obtain ⟨c52, H⟩ := ko_o H
    obtain ⟨a53, c54, H⟩ := kr_o H
    refine x_getR fr_X3_29 dX3_write_17 c52 rfl c54 ?_
    refine x_iload_n dX3_write_20 rfl 3 rfl ?_
    obtain ⟨n56, c55, H⟩ := ka_o H
    obtain ⟨c57, H⟩ := chk_o H
    obtain ⟨a58, c59, H⟩ := kr_o H
    refine x_aald dX3_write_21 c55 (by decide) (inb_in.mp c57) c59 ?_
    obtain ⟨c64, H⟩ := ko_o H
    obtain ⟨v60, h61, hc62, H⟩ := bd_o H
    refine x_callVv (As := [.ref a58]) (q := (RX3, TX3, 2)) dX3_write_22 mi_X3_writeCell lk_X3_33 im_X3_writeCell se_X3_writeCell rfl c64 rfl rfl (Nat.le_of_ble_eq_true rfl) (t_X3_writeCell (by omega) hc62) ?_
    obtain ⟨v63, ev63, H⟩ := nm_o H
    refine x_iinc (v := v63) (lv' := [(3, .int v63), (0, .ref x0), (1, .ref x1), (2, .ref x2)]) dX3_write_25 3 rfl (by decide) ev63 rfl ?_
    refine x_goto (tgt := 7) dX3_write_28 (by decide) ?_
    refine Ex.sub [1, 2, 3, 0] rfl ?_
    exact hk7 H
def f_X3_write_7 : Nat → Nat → Nat → Nat → Int32 → aH → Option (Unit × aH)
  | 0 => fun _ _ _ _ _ => none
  | n + 1 => b_X3_write_7 (f_X3_write_7 n)
set_option maxRecDepth 100000 in
set_option maxHeartbeats 4000000 in
theorem t_X3_write_7 {Γ : gS} {d : Nat} (hd : 3 ≤ d) (n : Nat) : ∀ {x0 : Nat} {x1 : Nat} {x2 : Nat} {x3 : Int32} {h : aH} {r : Unit} {h' : aH}, f_X3_write_7 n x0 x1 x2 x3 h = some (r, h') → Ex Γ gX3_write d 7 [(0, .ref x0), (1, .ref x1), (2, .ref x2), (3, .int x3)] [] h none h' := by
  induction n with
  | zero => intro x0 x1 x2 x3 h r h' H; cases H
  | succ n ih => intro x0 x1 x2 x3 h r h' H; exact tb_X3_write_7 hd ih H
def f_X3_write (x0 : Nat) (x1 : Nat) (x2 : Nat) (h : aH) : Option (Unit × aH) :=
  ko h x0 3 <|
  f_X3_write_7 FU x0 x1 x2 0 (sI h x0 1 0)
set_option maxRecDepth 100000 in
set_option maxHeartbeats 4000000 in
theorem t_X3_write {Γ : gS} {d : Nat} (hd : 3 ≤ d) {x0 : Nat} {x1 : Nat} {x2 : Nat} {h : aH} {r : Unit} {h' : aH} (H : f_X3_write x0 x1 x2 h = some (r, h')) : Mx Γ gX3_write d [.ref x0, .ref x1, .ref x2] h none h' := by
  refine Mx.of (by decide +kernel) (Nat.le_of_ble_eq_true rfl) ?_
  unfold f_X3_write at H
  show Ex Γ gX3_write d 0 [(0, .ref x0), (1, .ref x1), (2, .ref x2)] [] h none h'
  obtain ⟨d, rfl⟩ : ∃ e, d = e + 1 := ⟨d - 1, by omega⟩
  refine x_aload_n dX3_write_0 rfl 0 rfl ?_
  refine x_iconst (v := 0) dX3_write_1 (by decide) ?_
  obtain ⟨c65, H⟩ := ko_o H
  refine x_putI fl_X3_17 dX3_write_2 c65 (fun e => by cases e) rfl ?_
  refine x_iconst (v := 0) dX3_write_5 (by decide) ?_
  refine x_istore_n (lv' := [(3, .int 0), (0, .ref x0), (1, .ref x1), (2, .ref x2)]) dX3_write_6 rfl (by decide) rfl rfl ?_
  refine Ex.sub [1, 2, 3, 0] rfl ?_
  exact t_X3_write_7 hd FU H
def f_X3_canBe_83 (s0 : Int32) (h : aH) : Option (Int32 × aH) :=
  chk (narrow .boolean (.int s0) = .int s0) <|
  some (s0, h)
set_option maxRecDepth 100000 in
set_option maxHeartbeats 4000000 in
theorem t_X3_canBe_83 {Γ : gS} {d : Nat} (hd : 0 ≤ d) {s0 : Int32} {h : aH} {r : Int32} {h' : aH} (H : f_X3_canBe_83 s0 h = some (r, h')) : Ex Γ gX3_canBe d 83 [] [.int s0] h (some (.int r)) h' := by
  unfold f_X3_canBe_83 at H
  obtain ⟨c1, H⟩ := chk_o H
  obtain ⟨rfl, rfl⟩ := so_1 H
  exact x_iret dX3_canBe_83 rfl c1
def f_X3_canBe_82 (h : aH) : Option (Int32 × aH) :=
  f_X3_canBe_83 0 h
set_option maxRecDepth 100000 in
set_option maxHeartbeats 4000000 in
theorem t_X3_canBe_82 {Γ : gS} {d : Nat} (hd : 0 ≤ d) {h : aH} {r : Int32} {h' : aH} (H : f_X3_canBe_82 h = some (r, h')) : Ex Γ gX3_canBe d 82 [] [] h (some (.int r)) h' := by
  unfold f_X3_canBe_82 at H
  refine x_iconst (v := 0) dX3_canBe_82 (by decide) ?_
  exact t_X3_canBe_83 hd H
def f_X3_canBe (x0 : Nat) (x1 : Int32) (h : aH) : Option (Int32 × aH) :=
  nm (1 <<< (x1 &&& 31)) fun (v2 : Int32) =>
  ko h x0 6 <|
  if 4096 ≤ (hI h x0 2) then
    f_X3_canBe_82 h
  else
    if (13 - x1) < (hI h x0 3) then
      f_X3_canBe_82 h
    else
      if v2 ≤ (hI h x0 4) then
        f_X3_canBe_82 h
      else
        if v2 ≤ (hI h x0 5) then
          f_X3_canBe_82 h
        else
          if (v2 / 2) < (((hI h x0 5) - (hI h x0 4)) &&& (v2 - 1)) then
            f_X3_canBe_82 h
          else
            if 7 < (hI h x0 6) then
              f_X3_canBe_82 h
            else
              if 7 < (hI h x0 7) then
                f_X3_canBe_82 h
              else
                f_X3_canBe_83 1 h
set_option maxRecDepth 100000 in
set_option maxHeartbeats 4000000 in
theorem t_X3_canBe {Γ : gS} {d : Nat} (hd : 0 ≤ d) {x0 : Nat} {x1 : Int32} {h : aH} {r : Int32} {h' : aH} (H : f_X3_canBe x0 x1 h = some (r, h')) : Mx Γ gX3_canBe d [.ref x0, .int x1] h (some (.int r)) h' := by
  refine Mx.of (by decide +kernel) (Nat.le_of_ble_eq_true rfl) ?_
  unfold f_X3_canBe at H
  show Ex Γ gX3_canBe d 0 [(0, .ref x0), (1, .int x1)] [] h (some (.int r)) h'
  refine x_iconst (v := 1) dX3_canBe_0 (by decide) ?_
  refine x_iload_n dX3_canBe_1 rfl 1 rfl ?_
  refine x_ishl dX3_canBe_2 ?_
  obtain ⟨v2, ev2, H⟩ := nm_o H
  refine x_istore_n (lv' := [(2, .int v2), (0, .ref x0), (1, .int x1)]) dX3_canBe_3 rfl (by decide) ev2 rfl ?_
  refine x_aload_n dX3_canBe_4 rfl 1 rfl ?_
  obtain ⟨c3, H⟩ := ko_o H
  refine x_getI fr_X3_66 dX3_canBe_5 c3 rfl ?_
  refine x_sipush (v := 4096) dX3_canBe_8 (by decide) ?_
  refine x_icmp_ge (tgt := 82) dX3_canBe_11 (by decide) (fun c4 => ?_) (fun c4 => ?_)
  · replace H := ite_p H c4
    refine Ex.sub [] rfl ?_
    exact t_X3_canBe_82 hd H
  · replace H := ite_m H c4
    refine x_aload_n dX3_canBe_14 rfl 1 rfl ?_
    refine x_getI fr_X3_69 dX3_canBe_15 c3 rfl ?_
    refine x_bipush (v := 13) dX3_canBe_18 (by decide) ?_
    refine x_iload_n dX3_canBe_20 rfl 2 rfl ?_
    refine x_isub dX3_canBe_21 ?_
    refine x_icmp_gt (tgt := 82) dX3_canBe_22 (by decide) (fun c5 => ?_) (fun c5 => ?_)
    · replace H := ite_p H c5
      refine Ex.sub [] rfl ?_
      exact t_X3_canBe_82 hd H
    · replace H := ite_m H c5
      refine x_aload_n dX3_canBe_25 rfl 1 rfl ?_
      refine x_getI fr_X3_72 dX3_canBe_26 c3 rfl ?_
      refine x_iload_n dX3_canBe_29 rfl 0 rfl ?_
      refine x_icmp_ge (tgt := 82) dX3_canBe_30 (by decide) (fun c6 => ?_) (fun c6 => ?_)
      · replace H := ite_p H c6
        refine Ex.sub [] rfl ?_
        exact t_X3_canBe_82 hd H
      · replace H := ite_m H c6
        refine x_aload_n dX3_canBe_33 rfl 1 rfl ?_
        refine x_getI fr_X3_75 dX3_canBe_34 c3 rfl ?_
        refine x_iload_n dX3_canBe_37 rfl 0 rfl ?_
        refine x_icmp_ge (tgt := 82) dX3_canBe_38 (by decide) (fun c7 => ?_) (fun c7 => ?_)
        · replace H := ite_p H c7
          refine Ex.sub [] rfl ?_
          exact t_X3_canBe_82 hd H
        · replace H := ite_m H c7
          refine x_aload_n dX3_canBe_41 rfl 1 rfl ?_
          refine x_getI fr_X3_75 dX3_canBe_42 c3 rfl ?_
          refine x_aload_n dX3_canBe_45 rfl 1 rfl ?_
          refine x_getI fr_X3_72 dX3_canBe_46 c3 rfl ?_
          refine x_isub dX3_canBe_49 ?_
          refine x_iload_n dX3_canBe_50 rfl 0 rfl ?_
          refine x_iconst (v := 1) dX3_canBe_51 (by decide) ?_
          refine x_isub dX3_canBe_52 ?_
          refine x_iand dX3_canBe_53 ?_
          refine x_iload_n dX3_canBe_54 rfl 0 rfl ?_
          refine x_iconst (v := 2) dX3_canBe_55 (by decide) ?_
          refine x_idiv dX3_canBe_56 (by decide) ?_
          refine x_icmp_gt (tgt := 82) dX3_canBe_57 (by decide) (fun c8 => ?_) (fun c8 => ?_)
          · replace H := ite_p H c8
            refine Ex.sub [] rfl ?_
            exact t_X3_canBe_82 hd H
          · replace H := ite_m H c8
            refine x_aload_n dX3_canBe_60 rfl 1 rfl ?_
            refine x_getI fr_X3_78 dX3_canBe_61 c3 rfl ?_
            refine x_bipush (v := 7) dX3_canBe_64 (by decide) ?_
            refine x_icmp_gt (tgt := 82) dX3_canBe_66 (by decide) (fun c9 => ?_) (fun c9 => ?_)
            · replace H := ite_p H c9
              refine Ex.sub [] rfl ?_
              exact t_X3_canBe_82 hd H
            · replace H := ite_m H c9
              refine x_aload_n dX3_canBe_69 rfl 1 rfl ?_
              refine x_getI fr_X3_81 dX3_canBe_70 c3 rfl ?_
              refine x_bipush (v := 7) dX3_canBe_73 (by decide) ?_
              refine x_icmp_gt (tgt := 82) dX3_canBe_75 (by decide) (fun c10 => ?_) (fun c10 => ?_)
              · replace H := ite_p H c10
                refine Ex.sub [] rfl ?_
                exact t_X3_canBe_82 hd H
              · replace H := ite_m H c10
                refine x_iconst (v := 1) dX3_canBe_78 (by decide) ?_
                refine x_goto (tgt := 83) dX3_canBe_79 (by decide) ?_
                refine Ex.sub [] rfl ?_
                exact t_X3_canBe_83 hd H
def f_X3_numberAt_23 (s0 : Int32) (h : aH) : Option (Int32 × aH) :=
  some (s0, h)
set_option maxRecDepth 100000 in
set_option maxHeartbeats 4000000 in
theorem t_X3_numberAt_23 {Γ : gS} {d : Nat} (hd : 0 ≤ d) {s0 : Int32} {h : aH} {r : Int32} {h' : aH} (H : f_X3_numberAt_23 s0 h = some (r, h')) : Ex Γ gX3_numberAt d 23 [] [.int s0] h (some (.int r)) h' := by
  unfold f_X3_numberAt_23 at H
  obtain ⟨rfl, rfl⟩ := so_1 H
  exact x_iret dX3_numberAt_23 rfl rfl
def f_X3_numberAt_20 (h : aH) : Option (Int32 × aH) :=
  f_X3_numberAt_23 255 h
set_option maxRecDepth 100000 in
set_option maxHeartbeats 4000000 in
theorem t_X3_numberAt_20 {Γ : gS} {d : Nat} (hd : 0 ≤ d) {h : aH} {r : Int32} {h' : aH} (H : f_X3_numberAt_20 h = some (r, h')) : Ex Γ gX3_numberAt d 20 [] [] h (some (.int r)) h' := by
  unfold f_X3_numberAt_20 at H
  refine x_sipush (v := 255) dX3_numberAt_20 (by decide) ?_
  exact t_X3_numberAt_23 hd H
def f_X3_numberAt (x0 : Nat) (x1 : Int32) (h : aH) : Option (Int32 × aH) :=
  if x1 < 0 then
    f_X3_numberAt_20 h
  else
    ka h x0 .byte fun n3 =>
    if (Int32.ofNat n3) ≤ x1 then
      f_X3_numberAt_20 h
    else
      chk (inb x1 n3 = true) <|
      f_X3_numberAt_23 ((hI h x0 x1.toNatClampNeg) &&& 255) h
set_option maxRecDepth 100000 in
set_option maxHeartbeats 4000000 in
theorem t_X3_numberAt {Γ : gS} {d : Nat} (hd : 0 ≤ d) {x0 : Nat} {x1 : Int32} {h : aH} {r : Int32} {h' : aH} (H : f_X3_numberAt x0 x1 h = some (r, h')) : Mx Γ gX3_numberAt d [.ref x0, .int x1] h (some (.int r)) h' := by
  refine Mx.of (by decide +kernel) (Nat.le_of_ble_eq_true rfl) ?_
  unfold f_X3_numberAt at H
  show Ex Γ gX3_numberAt d 0 [(0, .ref x0), (1, .int x1)] [] h (some (.int r)) h'
  refine x_iload_n dX3_numberAt_0 rfl 1 rfl ?_
  refine x_if_lt (tgt := 20) dX3_numberAt_1 (by decide) (fun c1 => ?_) (fun c1 => ?_)
  · replace H := ite_p H c1
    refine Ex.sub [] rfl ?_
    exact t_X3_numberAt_20 hd H
  · replace H := ite_m H c1
    refine x_iload_n dX3_numberAt_4 rfl 1 rfl ?_
    refine x_aload_n dX3_numberAt_5 rfl 0 rfl ?_
    obtain ⟨n3, c2, H⟩ := ka_o H
    refine x_alen dX3_numberAt_6 c2 (by decide) ?_
    refine x_icmp_ge (tgt := 20) dX3_numberAt_7 (by decide) (fun c4 => ?_) (fun c4 => ?_)
    · replace H := ite_p H c4
      refine Ex.sub [] rfl ?_
      exact t_X3_numberAt_20 hd H
    · replace H := ite_m H c4
      refine x_aload_n dX3_numberAt_10 rfl 0 rfl ?_
      refine x_iload_n dX3_numberAt_11 rfl 1 rfl ?_
      obtain ⟨c5, H⟩ := chk_o H
      refine x_bald dX3_numberAt_12 c2 (inb_in.mp c5) ?_
      refine x_sipush (v := 255) dX3_numberAt_13 (by decide) ?_
      refine x_iand dX3_numberAt_16 ?_
      refine x_goto (tgt := 23) dX3_numberAt_17 (by decide) ?_
      refine Ex.sub [] rfl ?_
      exact t_X3_numberAt_23 hd H
def b_X3_isEmpty_2 (k2 : Nat → Int32 → Int32 → aH → Option (Int32 × aH)) (x0 : Nat) (x1 : Int32) (x2 : Int32) (h : aH) : Option (Int32 × aH) :=
  if 8 ≤ x2 then
    some (1, h)
  else
    bd (f_X3_numberAt x0 (x1 + x2) h) fun v2 h3 =>
    if v2 = 255 then
      nm (x2 + 1) fun (v6 : Int32) =>
      k2 x0 x1 v6 h3
    else
      some (0, h3)
set_option maxRecDepth 100000 in
set_option maxHeartbeats 4000000 in
theorem tb_X3_isEmpty_2 {Γ : gS} {d : Nat} (hd : 1 ≤ d) {k2 : Nat → Int32 → Int32 → aH → Option (Int32 × aH)} (hk2 : ∀ {x0 : Nat} {x1 : Int32} {x2 : Int32} {h : aH} {r : Int32} {h' : aH}, k2 x0 x1 x2 h = some (r, h') → Ex Γ gX3_isEmpty d 2 [(0, .ref x0), (1, .int x1), (2, .int x2)] [] h (some (.int r)) h') {x0 : Nat} {x1 : Int32} {x2 : Int32} {h : aH} {r : Int32} {h' : aH} (H : b_X3_isEmpty_2 k2 x0 x1 x2 h = some (r, h')) : Ex Γ gX3_isEmpty d 2 [(0, .ref x0), (1, .int x1), (2, .int x2)] [] h (some (.int r)) h' := by
  unfold b_X3_isEmpty_2 at H
  obtain ⟨d, rfl⟩ : ∃ e, d = e + 1 := ⟨d - 1, by omega⟩
  refine x_iload_n dX3_isEmpty_2 rfl 2 rfl ?_
  refine x_bipush (v := 8) dX3_isEmpty_3 (by decide) ?_
  refine x_icmp_ge (tgt := 29) dX3_isEmpty_5 (by decide) (fun c1 => ?_) (fun c1 => ?_)
  · replace H := ite_p H c1
    refine x_iconst (v := 1) dX3_isEmpty_29 (by decide) ?_
    obtain ⟨rfl, rfl⟩ := so_1 H
    exact x_iret dX3_isEmpty_30 rfl (by decide)
  · replace H := ite_m H c1
    refine x_aload_n dX3_isEmpty_8 rfl 0 rfl ?_
    refine x_iload_n dX3_isEmpty_9 rfl 1 rfl ?_
    refine x_iload_n dX3_isEmpty_10 rfl 2 rfl ?_
    refine x_iadd dX3_isEmpty_11 ?_
    obtain ⟨v2, h3, hc4, H⟩ := bd_o H
    refine x_callSi (As := [.ref x0, .int (x1 + x2)]) dX3_isEmpty_12 mi_X3_numberAt lk_X3_110 sm_X3_numberAt rfl rfl (Nat.le_of_ble_eq_true rfl) (t_X3_numberAt (by omega) hc4) ?_
    refine x_sipush (v := 255) dX3_isEmpty_15 (by decide) ?_
    refine x_icmp_eq (tgt := 23) dX3_isEmpty_18 (by decide) (fun c5 => ?_) (fun c5 => ?_)
    · replace H := ite_p H c5
      obtain ⟨v6, ev6, H⟩ := nm_o H
      refine x_iinc (v := v6) (lv' := [(2, .int v6), (0, .ref x0), (1, .int x1)]) dX3_isEmpty_23 2 rfl (by decide) ev6 rfl ?_
      refine x_goto (tgt := 2) dX3_isEmpty_26 (by decide) ?_
      refine Ex.sub [1, 2, 0] rfl ?_
      exact hk2 H
    · replace H := ite_m H c5
      refine x_iconst (v := 0) dX3_isEmpty_21 (by decide) ?_
      obtain ⟨rfl, rfl⟩ := so_1 H
      exact x_iret dX3_isEmpty_22 rfl (by decide)
def f_X3_isEmpty_2 : Nat → Nat → Int32 → Int32 → aH → Option (Int32 × aH)
  | 0 => fun _ _ _ _ => none
  | n + 1 => b_X3_isEmpty_2 (f_X3_isEmpty_2 n)
set_option maxRecDepth 100000 in
set_option maxHeartbeats 4000000 in
theorem t_X3_isEmpty_2 {Γ : gS} {d : Nat} (hd : 1 ≤ d) (n : Nat) : ∀ {x0 : Nat} {x1 : Int32} {x2 : Int32} {h : aH} {r : Int32} {h' : aH}, f_X3_isEmpty_2 n x0 x1 x2 h = some (r, h') → Ex Γ gX3_isEmpty d 2 [(0, .ref x0), (1, .int x1), (2, .int x2)] [] h (some (.int r)) h' := by
  induction n with
  | zero => intro x0 x1 x2 h r h' H; cases H
  | succ n ih => intro x0 x1 x2 h r h' H; exact tb_X3_isEmpty_2 hd ih H
def f_X3_isEmpty (x0 : Nat) (x1 : Int32) (h : aH) : Option (Int32 × aH) :=
  f_X3_isEmpty_2 FU x0 x1 0 h
set_option maxRecDepth 100000 in
set_option maxHeartbeats 4000000 in
theorem t_X3_isEmpty {Γ : gS} {d : Nat} (hd : 1 ≤ d) {x0 : Nat} {x1 : Int32} {h : aH} {r : Int32} {h' : aH} (H : f_X3_isEmpty x0 x1 h = some (r, h')) : Mx Γ gX3_isEmpty d [.ref x0, .int x1] h (some (.int r)) h' := by
  refine Mx.of (by decide +kernel) (Nat.le_of_ble_eq_true rfl) ?_
  unfold f_X3_isEmpty at H
  show Ex Γ gX3_isEmpty d 0 [(0, .ref x0), (1, .int x1)] [] h (some (.int r)) h'
  obtain ⟨d, rfl⟩ : ∃ e, d = e + 1 := ⟨d - 1, by omega⟩
  refine x_iconst (v := 0) dX3_isEmpty_0 (by decide) ?_
  refine x_istore_n (lv' := [(2, .int 0), (0, .ref x0), (1, .int x1)]) dX3_isEmpty_1 rfl (by decide) rfl rfl ?_
  refine Ex.sub [1, 2, 0] rfl ?_
  exact t_X3_isEmpty_2 hd FU H
def f_X3_twoAt (x0 : Nat) (x1 : Int32) (h : aH) : Option (Int32 × aH) :=
  bd (f_X3_numberAt x0 x1 h) fun v1 h2 =>
  bd (f_X3_numberAt x0 (x1 + 1) h2) fun v4 h5 =>
  some ((256 * v1) + v4, h5)
set_option maxRecDepth 100000 in
set_option maxHeartbeats 4000000 in
theorem t_X3_twoAt {Γ : gS} {d : Nat} (hd : 1 ≤ d) {x0 : Nat} {x1 : Int32} {h : aH} {r : Int32} {h' : aH} (H : f_X3_twoAt x0 x1 h = some (r, h')) : Mx Γ gX3_twoAt d [.ref x0, .int x1] h (some (.int r)) h' := by
  refine Mx.of (by decide +kernel) (Nat.le_of_ble_eq_true rfl) ?_
  unfold f_X3_twoAt at H
  show Ex Γ gX3_twoAt d 0 [(0, .ref x0), (1, .int x1)] [] h (some (.int r)) h'
  obtain ⟨d, rfl⟩ : ∃ e, d = e + 1 := ⟨d - 1, by omega⟩
  refine x_sipush (v := 256) dX3_twoAt_0 (by decide) ?_
  refine x_aload_n dX3_twoAt_3 rfl 0 rfl ?_
  refine x_iload_n dX3_twoAt_4 rfl 1 rfl ?_
  obtain ⟨v1, h2, hc3, H⟩ := bd_o H
  refine x_callSi (As := [.ref x0, .int x1]) dX3_twoAt_5 mi_X3_numberAt lk_X3_110 sm_X3_numberAt rfl rfl (Nat.le_of_ble_eq_true rfl) (t_X3_numberAt (by omega) hc3) ?_
  refine x_imul dX3_twoAt_8 ?_
  refine x_aload_n dX3_twoAt_9 rfl 0 rfl ?_
  refine x_iload_n dX3_twoAt_10 rfl 1 rfl ?_
  refine x_iconst (v := 1) dX3_twoAt_11 (by decide) ?_
  refine x_iadd dX3_twoAt_12 ?_
  obtain ⟨v4, h5, hc6, H⟩ := bd_o H
  refine x_callSi (As := [.ref x0, .int (x1 + 1)]) dX3_twoAt_13 mi_X3_numberAt lk_X3_110 sm_X3_numberAt rfl rfl (Nat.le_of_ble_eq_true rfl) (t_X3_numberAt (by omega) hc6) ?_
  refine x_iadd dX3_twoAt_16 ?_
  obtain ⟨rfl, rfl⟩ := so_1 H
  exact x_iret dX3_twoAt_17 rfl rfl
def f_X3_readCell_167 (s0 : Int32) (h : aH) : Option (Int32 × aH) :=
  chk (narrow .boolean (.int s0) = .int s0) <|
  some (s0, h)
set_option maxRecDepth 100000 in
set_option maxHeartbeats 4000000 in
theorem t_X3_readCell_167 {Γ : gS} {d : Nat} (hd : 2 ≤ d) {s0 : Int32} {h : aH} {r : Int32} {h' : aH} (H : f_X3_readCell_167 s0 h = some (r, h')) : Ex Γ gX3_readCell d 167 [] [.int s0] h (some (.int r)) h' := by
  unfold f_X3_readCell_167 at H
  obtain ⟨d, rfl⟩ : ∃ e, d = e + 1 := ⟨d - 1, by omega⟩
  obtain ⟨c1, H⟩ := chk_o H
  obtain ⟨rfl, rfl⟩ := so_1 H
  exact x_iret dX3_readCell_167 rfl c1
def f_X3_readCell_166 (h : aH) : Option (Int32 × aH) :=
  f_X3_readCell_167 0 h
set_option maxRecDepth 100000 in
set_option maxHeartbeats 4000000 in
theorem t_X3_readCell_166 {Γ : gS} {d : Nat} (hd : 2 ≤ d) {h : aH} {r : Int32} {h' : aH} (H : f_X3_readCell_166 h = some (r, h')) : Ex Γ gX3_readCell d 166 [] [] h (some (.int r)) h' := by
  unfold f_X3_readCell_166 at H
  obtain ⟨d, rfl⟩ : ∃ e, d = e + 1 := ⟨d - 1, by omega⟩
  refine x_iconst (v := 0) dX3_readCell_166 (by decide) ?_
  exact t_X3_readCell_167 hd H
def f_X3_readCell_134 (x0 : Nat) (x1 : Int32) (x2 : Nat) (x4 : Nat) (s0 : Int32) (h : aH) : Option (Int32 × aH) :=
  bd (f_X3_numberAt x0 x1 h) fun v2 h3 =>
  if 1 < v2 then
    f_X3_readCell_166 h3
  else
    ko h3 x4 4 <|
    bd (f_X3_canBe x2 (hI h3 x4 2) h3) fun v7 h8 =>
    if v7 = 0 then
      f_X3_readCell_166 h8
    else
      if s0 = 0 then
        f_X3_readCell_166 h8
      else
        f_X3_readCell_167 1 h8
set_option maxRecDepth 100000 in
set_option maxHeartbeats 4000000 in
theorem t_X3_readCell_134 {Γ : gS} {d : Nat} (hd : 2 ≤ d) {x0 : Nat} {x1 : Int32} {x2 : Nat} {x4 : Nat} {s0 : Int32} {h : aH} {r : Int32} {h' : aH} (H : f_X3_readCell_134 x0 x1 x2 x4 s0 h = some (r, h')) : Ex Γ gX3_readCell d 134 [(0, .ref x0), (1, .int x1), (2, .ref x2), (4, .ref x4)] [.int s0] h (some (.int r)) h' := by
  unfold f_X3_readCell_134 at H
  obtain ⟨d, rfl⟩ : ∃ e, d = e + 1 := ⟨d - 1, by omega⟩
  refine x_istore (lv' := [(5, .int s0), (0, .ref x0), (1, .int x1), (2, .ref x2), (4, .ref x4)]) dX3_readCell_134 (by decide) rfl rfl ?_
  refine x_aload_n dX3_readCell_136 rfl 1 rfl ?_
  refine x_iload_n dX3_readCell_137 rfl 2 rfl ?_
  obtain ⟨v2, h3, hc4, H⟩ := bd_o H
  refine x_callSi (As := [.ref x0, .int x1]) dX3_readCell_138 mi_X3_numberAt lk_X3_110 sm_X3_numberAt rfl rfl (Nat.le_of_ble_eq_true rfl) (t_X3_numberAt (by omega) hc4) ?_
  refine x_iconst (v := 1) dX3_readCell_141 (by decide) ?_
  refine x_icmp_gt (tgt := 166) dX3_readCell_142 (by decide) (fun c5 => ?_) (fun c5 => ?_)
  · replace H := ite_p H c5
    refine Ex.sub [] rfl ?_
    exact t_X3_readCell_166 hd H
  · replace H := ite_m H c5
    refine x_aload_n dX3_readCell_145 rfl 3 rfl ?_
    refine x_aload dX3_readCell_146 4 rfl ?_
    obtain ⟨c6, H⟩ := ko_o H
    refine x_getI fr_X3_119 dX3_readCell_148 c6 rfl ?_
    obtain ⟨v7, h8, hc9, H⟩ := bd_o H
    refine x_callSi (As := [.ref x2, .int (hI h3 x4 2)]) dX3_readCell_151 mi_X3_canBe lk_X3_122 sm_X3_canBe rfl rfl (Nat.le_of_ble_eq_true rfl) (t_X3_canBe (by omega) hc9) ?_
    refine x_if_eq (tgt := 166) dX3_readCell_154 (by decide) (fun c10 => ?_) (fun c10 => ?_)
    · replace H := ite_p H c10
      refine Ex.sub [] rfl ?_
      exact t_X3_readCell_166 hd H
    · replace H := ite_m H c10
      refine x_iload dX3_readCell_157 0 rfl ?_
      refine x_if_eq (tgt := 166) dX3_readCell_159 (by decide) (fun c11 => ?_) (fun c11 => ?_)
      · replace H := ite_p H c11
        refine Ex.sub [] rfl ?_
        exact t_X3_readCell_166 hd H
      · replace H := ite_m H c11
        refine x_iconst (v := 1) dX3_readCell_162 (by decide) ?_
        refine x_goto (tgt := 167) dX3_readCell_163 (by decide) ?_
        refine Ex.sub [] rfl ?_
        exact t_X3_readCell_167 hd H
def f_X3_readCell_129 (x0 : Nat) (x1 : Int32) (x2 : Nat) (x4 : Nat) (h : aH) : Option (Int32 × aH) :=
  f_X3_readCell_134 x0 x1 x2 x4 1 h
set_option maxRecDepth 100000 in
set_option maxHeartbeats 4000000 in
theorem t_X3_readCell_129 {Γ : gS} {d : Nat} (hd : 2 ≤ d) {x0 : Nat} {x1 : Int32} {x2 : Nat} {x4 : Nat} {h : aH} {r : Int32} {h' : aH} (H : f_X3_readCell_129 x0 x1 x2 x4 h = some (r, h')) : Ex Γ gX3_readCell d 129 [(0, .ref x0), (1, .int x1), (2, .ref x2), (4, .ref x4)] [] h (some (.int r)) h' := by
  unfold f_X3_readCell_129 at H
  obtain ⟨d, rfl⟩ : ∃ e, d = e + 1 := ⟨d - 1, by omega⟩
  refine x_iconst (v := 1) dX3_readCell_129 (by decide) ?_
  refine x_goto (tgt := 134) dX3_readCell_130 (by decide) ?_
  exact t_X3_readCell_134 hd H
def f_X3_readCell_35 (x0 : Nat) (x1 : Int32) (x2 : Nat) (x3 : Int32) (x4 : Nat) (s0 : Nat) (s1 : Int32) (h : aH) : Option (Int32 × aH) :=
  ko h s0 6 <|
  chk (s1 = 0 ∨ s1 = 1) <|
  bd (f_X3_twoAt x0 (x1 + 1) (sI h s0 1 s1)) fun v13 h14 =>
  ko h14 x2 6 <|
  bd (f_X3_numberAt x0 (x1 + 3) (sI h14 x2 2 v13)) fun v17 h18 =>
  ko h18 x2 6 <|
  bd (f_X3_numberAt x0 (x1 + 4) (sI h18 x2 3 v17)) fun v21 h22 =>
  ko h22 x2 6 <|
  bd (f_X3_numberAt x0 (x1 + 5) (sI h22 x2 4 v21)) fun v25 h26 =>
  ko h26 x2 6 <|
  bd (f_X3_numberAt x0 (x1 + 6) (sI h26 x2 5 v25)) fun v29 h30 =>
  ko h30 x2 6 <|
  bd (f_X3_numberAt x0 (x1 + 7) (sI h30 x2 6 v29)) fun v33 h34 =>
  ko h34 x2 6 <|
  if x3 < 0 then
    f_X3_readCell_129 x0 x1 x2 x4 (sI h34 x2 7 v33)
  else
    if 4 ≤ x3 then
      f_X3_readCell_129 x0 x1 x2 x4 (sI h34 x2 7 v33)
    else
      nm (hI (sI h34 x2 7 v33) x2 7) fun (v39 : Int32) =>
      ko h34 x4 4 <|
      kr (hR h34 x4 5) fun a41 =>
      ka h34 a41 .int fun n44 =>
      chk (inb x3 n44 = true) <|
      nm (hI (sI h34 x2 7 v33) a41 x3.toNatClampNeg) fun (v46 : Int32) =>
      if v39 = v46 then
        f_X3_readCell_129 x0 x1 x2 x4 (sI h34 x2 7 v33)
      else
        f_X3_readCell_134 x0 x1 x2 x4 0 (sI h34 x2 7 v33)
set_option maxRecDepth 100000 in
set_option maxHeartbeats 4000000 in
theorem t_X3_readCell_35 {Γ : gS} {d : Nat} (hd : 2 ≤ d) {x0 : Nat} {x1 : Int32} {x2 : Nat} {x3 : Int32} {x4 : Nat} {s0 : Nat} {s1 : Int32} {h : aH} {r : Int32} {h' : aH} (H : f_X3_readCell_35 x0 x1 x2 x3 x4 s0 s1 h = some (r, h')) : Ex Γ gX3_readCell d 35 [(0, .ref x0), (1, .int x1), (2, .ref x2), (3, .int x3), (4, .ref x4)] [.int s1, .ref s0] h (some (.int r)) h' := by
  unfold f_X3_readCell_35 at H
  obtain ⟨d, rfl⟩ : ∃ e, d = e + 1 := ⟨d - 1, by omega⟩
  obtain ⟨c12, H⟩ := ko_o H
  obtain ⟨c48, H⟩ := chk_o H
  refine x_putZ fl_X3_63 dX3_readCell_35 c12 (fun e => by cases e) rfl c48 ?_
  refine x_aload_n dX3_readCell_38 rfl 2 rfl ?_
  refine x_aload_n dX3_readCell_39 rfl 0 rfl ?_
  refine x_iload_n dX3_readCell_40 rfl 1 rfl ?_
  refine x_iconst (v := 1) dX3_readCell_41 (by decide) ?_
  refine x_iadd dX3_readCell_42 ?_
  obtain ⟨v13, h14, hc15, H⟩ := bd_o H
  refine x_callSi (As := [.ref x0, .int (x1 + 1)]) dX3_readCell_43 mi_X3_twoAt lk_X3_113 sm_X3_twoAt rfl rfl (Nat.le_of_ble_eq_true rfl) (t_X3_twoAt (by omega) hc15) ?_
  obtain ⟨c16, H⟩ := ko_o H
  refine x_putI fl_X3_66 dX3_readCell_46 c16 (fun e => by cases e) rfl ?_
  refine x_aload_n dX3_readCell_49 rfl 2 rfl ?_
  refine x_aload_n dX3_readCell_50 rfl 0 rfl ?_
  refine x_iload_n dX3_readCell_51 rfl 1 rfl ?_
  refine x_iconst (v := 3) dX3_readCell_52 (by decide) ?_
  refine x_iadd dX3_readCell_53 ?_
  obtain ⟨v17, h18, hc19, H⟩ := bd_o H
  refine x_callSi (As := [.ref x0, .int (x1 + 3)]) dX3_readCell_54 mi_X3_numberAt lk_X3_110 sm_X3_numberAt rfl rfl (Nat.le_of_ble_eq_true rfl) (t_X3_numberAt (by omega) hc19) ?_
  obtain ⟨c20, H⟩ := ko_o H
  refine x_putI fl_X3_69 dX3_readCell_57 c20 (fun e => by cases e) rfl ?_
  refine x_aload_n dX3_readCell_60 rfl 2 rfl ?_
  refine x_aload_n dX3_readCell_61 rfl 0 rfl ?_
  refine x_iload_n dX3_readCell_62 rfl 1 rfl ?_
  refine x_iconst (v := 4) dX3_readCell_63 (by decide) ?_
  refine x_iadd dX3_readCell_64 ?_
  obtain ⟨v21, h22, hc23, H⟩ := bd_o H
  refine x_callSi (As := [.ref x0, .int (x1 + 4)]) dX3_readCell_65 mi_X3_numberAt lk_X3_110 sm_X3_numberAt rfl rfl (Nat.le_of_ble_eq_true rfl) (t_X3_numberAt (by omega) hc23) ?_
  obtain ⟨c24, H⟩ := ko_o H
  refine x_putI fl_X3_72 dX3_readCell_68 c24 (fun e => by cases e) rfl ?_
  refine x_aload_n dX3_readCell_71 rfl 2 rfl ?_
  refine x_aload_n dX3_readCell_72 rfl 0 rfl ?_
  refine x_iload_n dX3_readCell_73 rfl 1 rfl ?_
  refine x_iconst (v := 5) dX3_readCell_74 (by decide) ?_
  refine x_iadd dX3_readCell_75 ?_
  obtain ⟨v25, h26, hc27, H⟩ := bd_o H
  refine x_callSi (As := [.ref x0, .int (x1 + 5)]) dX3_readCell_76 mi_X3_numberAt lk_X3_110 sm_X3_numberAt rfl rfl (Nat.le_of_ble_eq_true rfl) (t_X3_numberAt (by omega) hc27) ?_
  obtain ⟨c28, H⟩ := ko_o H
  refine x_putI fl_X3_75 dX3_readCell_79 c28 (fun e => by cases e) rfl ?_
  refine x_aload_n dX3_readCell_82 rfl 2 rfl ?_
  refine x_aload_n dX3_readCell_83 rfl 0 rfl ?_
  refine x_iload_n dX3_readCell_84 rfl 1 rfl ?_
  refine x_bipush (v := 6) dX3_readCell_85 (by decide) ?_
  refine x_iadd dX3_readCell_87 ?_
  obtain ⟨v29, h30, hc31, H⟩ := bd_o H
  refine x_callSi (As := [.ref x0, .int (x1 + 6)]) dX3_readCell_88 mi_X3_numberAt lk_X3_110 sm_X3_numberAt rfl rfl (Nat.le_of_ble_eq_true rfl) (t_X3_numberAt (by omega) hc31) ?_
  obtain ⟨c32, H⟩ := ko_o H
  refine x_putI fl_X3_78 dX3_readCell_91 c32 (fun e => by cases e) rfl ?_
  refine x_aload_n dX3_readCell_94 rfl 2 rfl ?_
  refine x_aload_n dX3_readCell_95 rfl 0 rfl ?_
  refine x_iload_n dX3_readCell_96 rfl 1 rfl ?_
  refine x_bipush (v := 7) dX3_readCell_97 (by decide) ?_
  refine x_iadd dX3_readCell_99 ?_
  obtain ⟨v33, h34, hc35, H⟩ := bd_o H
  refine x_callSi (As := [.ref x0, .int (x1 + 7)]) dX3_readCell_100 mi_X3_numberAt lk_X3_110 sm_X3_numberAt rfl rfl (Nat.le_of_ble_eq_true rfl) (t_X3_numberAt (by omega) hc35) ?_
  obtain ⟨c36, H⟩ := ko_o H
  refine x_putI fl_X3_81 dX3_readCell_103 c36 (fun e => by cases e) rfl ?_
  refine x_iload_n dX3_readCell_106 rfl 3 rfl ?_
  refine x_if_lt (tgt := 129) dX3_readCell_107 (by decide) (fun c37 => ?_) (fun c37 => ?_)
  · replace H := ite_p H c37
    refine Ex.sub [0, 1, 2, 4] rfl ?_
    exact t_X3_readCell_129 hd H
  · replace H := ite_m H c37
    refine x_iload_n dX3_readCell_110 rfl 3 rfl ?_
    refine x_iconst (v := 4) dX3_readCell_111 (by decide) ?_
    refine x_icmp_ge (tgt := 129) dX3_readCell_112 (by decide) (fun c38 => ?_) (fun c38 => ?_)
    · replace H := ite_p H c38
      refine Ex.sub [0, 1, 2, 4] rfl ?_
      exact t_X3_readCell_129 hd H
    · replace H := ite_m H c38
      refine x_aload_n dX3_readCell_115 rfl 2 rfl ?_
      obtain ⟨v39, ev39, H⟩ := nm_o H
      refine x_getIe fr_X3_81 dX3_readCell_116 c36 rfl ev39 ?_
      refine x_aload dX3_readCell_119 4 rfl ?_
      obtain ⟨c40, H⟩ := ko_o H
      obtain ⟨a41, c42, H⟩ := kr_o H
      refine x_getR fr_X3_116 dX3_readCell_121 c40 rfl c42 ?_
      refine x_iload_n dX3_readCell_124 rfl 3 rfl ?_
      obtain ⟨n44, c43, H⟩ := ka_o H
      obtain ⟨c45, H⟩ := chk_o H
      obtain ⟨v46, ev46, H⟩ := nm_o H
      refine x_ialde dX3_readCell_125 c43 (inb_in.mp c45) ev46 ?_
      refine x_icmp_ne (tgt := 133) dX3_readCell_126 (by decide) (fun c47 => ?_) (fun c47 => ?_)
      · replace H := ite_m H c47
        refine x_iconst (v := 0) dX3_readCell_133 (by decide) ?_
        refine Ex.sub [0, 1, 2, 4] rfl ?_
        exact t_X3_readCell_134 hd H
      · replace H := ite_p H c47
        refine Ex.sub [0, 1, 2, 4] rfl ?_
        exact t_X3_readCell_129 hd H
def f_X3_readCell_15 (x0 : Nat) (x1 : Int32) (x2 : Nat) (x3 : Int32) (x4 : Nat) (h : aH) : Option (Int32 × aH) :=
  ko h x2 6 <|
  bd (f_X3_numberAt x0 x1 (sI h x2 0 1)) fun v50 h51 =>
  if v50 = 1 then
    f_X3_readCell_35 x0 x1 x2 x3 x4 x2 1 h51
  else
    f_X3_readCell_35 x0 x1 x2 x3 x4 x2 0 h51
set_option maxRecDepth 100000 in
set_option maxHeartbeats 4000000 in
theorem t_X3_readCell_15 {Γ : gS} {d : Nat} (hd : 2 ≤ d) {x0 : Nat} {x1 : Int32} {x2 : Nat} {x3 : Int32} {x4 : Nat} {h : aH} {r : Int32} {h' : aH} (H : f_X3_readCell_15 x0 x1 x2 x3 x4 h = some (r, h')) : Ex Γ gX3_readCell d 15 [(0, .ref x0), (1, .int x1), (2, .ref x2), (3, .int x3), (4, .ref x4)] [] h (some (.int r)) h' := by
  unfold f_X3_readCell_15 at H
  obtain ⟨d, rfl⟩ : ∃ e, d = e + 1 := ⟨d - 1, by omega⟩
  refine x_aload_n dX3_readCell_15 rfl 2 rfl ?_
  refine x_iconst (v := 1) dX3_readCell_16 (by decide) ?_
  obtain ⟨c49, H⟩ := ko_o H
  refine x_putZ fl_X3_57 dX3_readCell_17 c49 (fun e => by cases e) rfl (by decide) ?_
  refine x_aload_n dX3_readCell_20 rfl 2 rfl ?_
  refine x_aload_n dX3_readCell_21 rfl 0 rfl ?_
  refine x_iload_n dX3_readCell_22 rfl 1 rfl ?_
  obtain ⟨v50, h51, hc52, H⟩ := bd_o H
  refine x_callSi (As := [.ref x0, .int x1]) dX3_readCell_23 mi_X3_numberAt lk_X3_110 sm_X3_numberAt rfl rfl (Nat.le_of_ble_eq_true rfl) (t_X3_numberAt (by omega) hc52) ?_
  refine x_iconst (v := 1) dX3_readCell_26 (by decide) ?_
  refine x_icmp_ne (tgt := 34) dX3_readCell_27 (by decide) (fun c53 => ?_) (fun c53 => ?_)
  · replace H := ite_m H c53
    refine x_iconst (v := 0) dX3_readCell_34 (by decide) ?_
    exact t_X3_readCell_35 hd H
  · replace H := ite_p H c53
    refine x_iconst (v := 1) dX3_readCell_30 (by decide) ?_
    refine x_goto (tgt := 35) dX3_readCell_31 (by decide) ?_
    exact t_X3_readCell_35 hd H
def f_X3_readCell (x0 : Nat) (x1 : Int32) (x2 : Nat) (x3 : Int32) (x4 : Nat) (h : aH) : Option (Int32 × aH) :=
  if x3 = (-1) then
    f_X3_readCell_15 x0 x1 x2 x3 x4 h
  else
    bd (f_X3_isEmpty x0 x1 h) fun v55 h56 =>
    if v55 = 0 then
      f_X3_readCell_15 x0 x1 x2 x3 x4 h56
    else
      some (1, h56)
set_option maxRecDepth 100000 in
set_option maxHeartbeats 4000000 in
theorem t_X3_readCell {Γ : gS} {d : Nat} (hd : 2 ≤ d) {x0 : Nat} {x1 : Int32} {x2 : Nat} {x3 : Int32} {x4 : Nat} {h : aH} {r : Int32} {h' : aH} (H : f_X3_readCell x0 x1 x2 x3 x4 h = some (r, h')) : Mx Γ gX3_readCell d [.ref x0, .int x1, .ref x2, .int x3, .ref x4] h (some (.int r)) h' := by
  refine Mx.of (by decide +kernel) (Nat.le_of_ble_eq_true rfl) ?_
  unfold f_X3_readCell at H
  show Ex Γ gX3_readCell d 0 [(0, .ref x0), (1, .int x1), (2, .ref x2), (3, .int x3), (4, .ref x4)] [] h (some (.int r)) h'
  obtain ⟨d, rfl⟩ : ∃ e, d = e + 1 := ⟨d - 1, by omega⟩
  refine x_iload_n dX3_readCell_0 rfl 3 rfl ?_
  refine x_iconst (v := (-1)) dX3_readCell_1 (by decide) ?_
  refine x_icmp_eq (tgt := 15) dX3_readCell_2 (by decide) (fun c54 => ?_) (fun c54 => ?_)
  · replace H := ite_p H c54
    exact t_X3_readCell_15 hd H
  · replace H := ite_m H c54
    refine x_aload_n dX3_readCell_5 rfl 0 rfl ?_
    refine x_iload_n dX3_readCell_6 rfl 1 rfl ?_
    obtain ⟨v55, h56, hc57, H⟩ := bd_o H
    refine x_callSi (As := [.ref x0, .int x1]) dX3_readCell_7 mi_X3_isEmpty lk_X3_106 sm_X3_isEmpty rfl rfl (Nat.le_of_ble_eq_true rfl) (t_X3_isEmpty (by omega) hc57) ?_
    refine x_if_eq (tgt := 15) dX3_readCell_10 (by decide) (fun c58 => ?_) (fun c58 => ?_)
    · replace H := ite_p H c58
      exact t_X3_readCell_15 hd H
    · replace H := ite_m H c58
      refine x_iconst (v := 1) dX3_readCell_13 (by decide) ?_
      obtain ⟨rfl, rfl⟩ := so_1 H
      exact x_iret dX3_readCell_14 rfl (by decide)
def f_X3_readObject_81 (h : aH) : Option (Int32 × aH) :=
  some (0, h)
set_option maxRecDepth 100000 in
set_option maxHeartbeats 4000000 in
theorem t_X3_readObject_81 {Γ : gS} {d : Nat} (hd : 4 ≤ d) {h : aH} {r : Int32} {h' : aH} (H : f_X3_readObject_81 h = some (r, h')) : Ex Γ gX3_readObject d 81 [] [] h (some (.int r)) h' := by
  unfold f_X3_readObject_81 at H
  obtain ⟨d, rfl⟩ : ∃ e, d = e + 1 := ⟨d - 1, by omega⟩
  refine x_iconst (v := 0) dX3_readObject_81 (by decide) ?_
  obtain ⟨rfl, rfl⟩ := so_1 H
  exact x_iret dX3_readObject_82 rfl (by decide)
def f_X3_readObject (x0 : Nat) (x1 : Int32) (x2 : Nat) (x3 : Nat) (h : aH) : Option (Int32 × aH) :=
  bd (f_X3_twoAt x0 x1 h) fun v1 h2 =>
  bd (f_X3_twoAt x0 (x1 + 2) h2) fun v4 h5 =>
  bd (f_X3_twoAt x0 (x1 + 4) h5) fun v7 h8 =>
  ko h8 x2 9 <|
  bd (f_X9_gapStart x2 (hI h8 x2 6) h8) fun v11 h12 =>
  if v1 < v11 then
    f_X3_readObject_81 h12
  else
    ko h12 x3 4 <|
    if (hI h12 x3 1) < (v1 + v4) then
      f_X3_readObject_81 h12
    else
      if v7 < 1 then
        f_X3_readObject_81 h12
      else
        if v4 < v7 then
          f_X3_readObject_81 h12
        else
          bd (f_X6_staysAsAsked v1 v4 (hI h12 x3 2) h12) fun v19 h20 =>
          if v19 = 0 then
            f_X3_readObject_81 h20
          else
            ko h20 x2 9 <|
            kr (hR h20 x2 1) fun a24 =>
            ka h20 a24 .int fun n27 =>
            chk (inb (hI h20 x2 6) n27 = true) <|
            kr (hR h20 x2 2) fun a29 =>
            nm (hI (sI h20 a24 (hI h20 x2 6 : Int32).toNatClampNeg v1) x2 6) fun (v31 : Int32) =>
            ka h20 a29 .int fun n33 =>
            chk (inb v31 n33 = true) <|
            kr (hR h20 x2 3) fun a35 =>
            nm (hI (sI (sI h20 a24 (hI h20 x2 6 : Int32).toNatClampNeg v1) a29 v31.toNatClampNeg v4) x2 6) fun (v37 : Int32) =>
            ka h20 a35 .int fun n39 =>
            chk (inb v37 n39 = true) <|
            nm (hI (sI (sI (sI h20 a24 (hI h20 x2 6 : Int32).toNatClampNeg v1) a29 v31.toNatClampNeg v4) a35 v37.toNatClampNeg v7) x2 6) fun (v41 : Int32) =>
            some (1, sI (sI (sI (sI h20 a24 (hI h20 x2 6 : Int32).toNatClampNeg v1) a29 v31.toNatClampNeg v4) a35 v37.toNatClampNeg v7) x2 6 (v41 + 1))
set_option maxRecDepth 100000 in
set_option maxHeartbeats 4000000 in
theorem t_X3_readObject {Γ : gS} {d : Nat} (hd : 4 ≤ d) {x0 : Nat} {x1 : Int32} {x2 : Nat} {x3 : Nat} {h : aH} {r : Int32} {h' : aH} (H : f_X3_readObject x0 x1 x2 x3 h = some (r, h')) : Mx Γ gX3_readObject d [.ref x0, .int x1, .ref x2, .ref x3] h (some (.int r)) h' := by
  refine Mx.of (by decide +kernel) (Nat.le_of_ble_eq_true rfl) ?_
  unfold f_X3_readObject at H
  show Ex Γ gX3_readObject d 0 [(0, .ref x0), (1, .int x1), (2, .ref x2), (3, .ref x3)] [] h (some (.int r)) h'
  obtain ⟨d, rfl⟩ : ∃ e, d = e + 1 := ⟨d - 1, by omega⟩
  refine x_aload_n dX3_readObject_0 rfl 0 rfl ?_
  refine x_iload_n dX3_readObject_1 rfl 1 rfl ?_
  obtain ⟨v1, h2, hc3, H⟩ := bd_o H
  refine x_callSi (As := [.ref x0, .int x1]) dX3_readObject_2 mi_X3_twoAt lk_X3_113 sm_X3_twoAt rfl rfl (Nat.le_of_ble_eq_true rfl) (t_X3_twoAt (by omega) hc3) ?_
  refine x_istore (lv' := [(4, .int v1), (0, .ref x0), (1, .int x1), (2, .ref x2), (3, .ref x3)]) dX3_readObject_5 (by decide) rfl rfl ?_
  refine x_aload_n dX3_readObject_7 rfl 1 rfl ?_
  refine x_iload_n dX3_readObject_8 rfl 2 rfl ?_
  refine x_iconst (v := 2) dX3_readObject_9 (by decide) ?_
  refine x_iadd dX3_readObject_10 ?_
  obtain ⟨v4, h5, hc6, H⟩ := bd_o H
  refine x_callSi (As := [.ref x0, .int (x1 + 2)]) dX3_readObject_11 mi_X3_twoAt lk_X3_113 sm_X3_twoAt rfl rfl (Nat.le_of_ble_eq_true rfl) (t_X3_twoAt (by omega) hc6) ?_
  refine x_istore (lv' := [(5, .int v4), (4, .int v1), (0, .ref x0), (1, .int x1), (2, .ref x2), (3, .ref x3)]) dX3_readObject_14 (by decide) rfl rfl ?_
  refine x_aload_n dX3_readObject_16 rfl 2 rfl ?_
  refine x_iload_n dX3_readObject_17 rfl 3 rfl ?_
  refine x_iconst (v := 4) dX3_readObject_18 (by decide) ?_
  refine x_iadd dX3_readObject_19 ?_
  obtain ⟨v7, h8, hc9, H⟩ := bd_o H
  refine x_callSi (As := [.ref x0, .int (x1 + 4)]) dX3_readObject_20 mi_X3_twoAt lk_X3_113 sm_X3_twoAt rfl rfl (Nat.le_of_ble_eq_true rfl) (t_X3_twoAt (by omega) hc9) ?_
  refine x_istore (lv' := [(6, .int v7), (5, .int v4), (4, .int v1), (0, .ref x0), (1, .int x1), (2, .ref x2), (3, .ref x3)]) dX3_readObject_23 (by decide) rfl rfl ?_
  refine x_aload_n dX3_readObject_25 rfl 5 rfl ?_
  refine x_aload_n dX3_readObject_26 rfl 5 rfl ?_
  obtain ⟨c10, H⟩ := ko_o H
  refine x_getI fr_X3_37 dX3_readObject_27 c10 rfl ?_
  obtain ⟨v11, h12, hc13, H⟩ := bd_o H
  refine x_callVi (As := [.int (hI h8 x2 6)]) (q := (RX9, TX9, 8)) dX3_readObject_30 mi_X9_gapStart lk_X3_126 im_X9_gapStart se_X9_gapStart rfl c10 rfl rfl (Nat.le_of_ble_eq_true rfl) (t_X9_gapStart (by omega) hc13) ?_
  refine x_istore (lv' := [(7, .int v11), (6, .int v7), (5, .int v4), (4, .int v1), (0, .ref x0), (1, .int x1), (2, .ref x2), (3, .ref x3)]) dX3_readObject_33 (by decide) rfl rfl ?_
  refine x_iload dX3_readObject_35 3 rfl ?_
  refine x_iload dX3_readObject_37 0 rfl ?_
  refine x_icmp_lt (tgt := 81) dX3_readObject_39 (by decide) (fun c14 => ?_) (fun c14 => ?_)
  · replace H := ite_p H c14
    refine Ex.sub [] rfl ?_
    exact t_X3_readObject_81 hd H
  · replace H := ite_m H c14
    refine x_iload dX3_readObject_42 3 rfl ?_
    refine x_iload dX3_readObject_44 2 rfl ?_
    refine x_iadd dX3_readObject_46 ?_
    refine x_aload_n dX3_readObject_47 rfl 7 rfl ?_
    obtain ⟨c15, H⟩ := ko_o H
    refine x_getI fr_X3_130 dX3_readObject_48 c15 rfl ?_
    refine x_icmp_gt (tgt := 81) dX3_readObject_51 (by decide) (fun c16 => ?_) (fun c16 => ?_)
    · replace H := ite_p H c16
      refine Ex.sub [] rfl ?_
      exact t_X3_readObject_81 hd H
    · replace H := ite_m H c16
      refine x_iload dX3_readObject_54 1 rfl ?_
      refine x_iconst (v := 1) dX3_readObject_56 (by decide) ?_
      refine x_icmp_lt (tgt := 81) dX3_readObject_57 (by decide) (fun c17 => ?_) (fun c17 => ?_)
      · replace H := ite_p H c17
        refine Ex.sub [] rfl ?_
        exact t_X3_readObject_81 hd H
      · replace H := ite_m H c17
        refine x_iload dX3_readObject_60 1 rfl ?_
        refine x_iload dX3_readObject_62 2 rfl ?_
        refine x_icmp_gt (tgt := 81) dX3_readObject_64 (by decide) (fun c18 => ?_) (fun c18 => ?_)
        · replace H := ite_p H c18
          refine Ex.sub [] rfl ?_
          exact t_X3_readObject_81 hd H
        · replace H := ite_m H c18
          refine x_iload dX3_readObject_67 3 rfl ?_
          refine x_iload dX3_readObject_69 2 rfl ?_
          refine x_aload_n dX3_readObject_71 rfl 7 rfl ?_
          refine x_getI fr_X3_119 dX3_readObject_72 c15 rfl ?_
          obtain ⟨v19, h20, hc21, H⟩ := bd_o H
          refine x_callSi (As := [.int v1, .int v4, .int (hI h12 x3 2)]) dX3_readObject_75 mi_X6_staysAsAsked lk_X3_133 sm_X6_staysAsAsked rfl rfl (Nat.le_of_ble_eq_true rfl) (t_X6_staysAsAsked (by omega) hc21) ?_
          refine x_if_ne (tgt := 83) dX3_readObject_78 (by decide) (fun c22 => ?_) (fun c22 => ?_)
          · replace H := ite_m H c22
            refine x_aload_n dX3_readObject_83 rfl 6 rfl ?_
            obtain ⟨c23, H⟩ := ko_o H
            obtain ⟨a24, c25, H⟩ := kr_o H
            refine x_getR fr_X3_40 dX3_readObject_84 c23 rfl c25 ?_
            refine x_aload_n dX3_readObject_87 rfl 6 rfl ?_
            refine x_getI fr_X3_37 dX3_readObject_88 c23 rfl ?_
            refine x_iload dX3_readObject_91 3 rfl ?_
            obtain ⟨n27, c26, H⟩ := ka_o H
            obtain ⟨c28, H⟩ := chk_o H
            refine x_iast dX3_readObject_93 c26 (inb_in.mp c28) ?_
            refine x_aload_n dX3_readObject_94 rfl 6 rfl ?_
            obtain ⟨a29, c30, H⟩ := kr_o H
            refine x_getR fr_X3_47 dX3_readObject_95 c23 rfl c30 ?_
            refine x_aload_n dX3_readObject_98 rfl 6 rfl ?_
            obtain ⟨v31, ev31, H⟩ := nm_o H
            refine x_getIe fr_X3_37 dX3_readObject_99 c23 rfl ev31 ?_
            refine x_iload dX3_readObject_102 2 rfl ?_
            obtain ⟨n33, c32, H⟩ := ka_o H
            obtain ⟨c34, H⟩ := chk_o H
            refine x_iast dX3_readObject_104 c32 (inb_in.mp c34) ?_
            refine x_aload_n dX3_readObject_105 rfl 6 rfl ?_
            obtain ⟨a35, c36, H⟩ := kr_o H
            refine x_getR fr_X3_50 dX3_readObject_106 c23 rfl c36 ?_
            refine x_aload_n dX3_readObject_109 rfl 6 rfl ?_
            obtain ⟨v37, ev37, H⟩ := nm_o H
            refine x_getIe fr_X3_37 dX3_readObject_110 c23 rfl ev37 ?_
            refine x_iload dX3_readObject_113 1 rfl ?_
            obtain ⟨n39, c38, H⟩ := ka_o H
            obtain ⟨c40, H⟩ := chk_o H
            refine x_iast dX3_readObject_115 c38 (inb_in.mp c40) ?_
            refine x_aload_n dX3_readObject_116 rfl 6 rfl ?_
            refine x_dup dX3_readObject_117 rfl ?_
            obtain ⟨v41, ev41, H⟩ := nm_o H
            refine x_getIe fr_X3_37 dX3_readObject_118 c23 rfl ev41 ?_
            refine x_iconst (v := 1) dX3_readObject_121 (by decide) ?_
            refine x_iadd dX3_readObject_122 ?_
            refine x_putI fl_X3_37 dX3_readObject_123 c23 (fun e => by cases e) rfl ?_
            refine x_iconst (v := 1) dX3_readObject_126 (by decide) ?_
            obtain ⟨rfl, rfl⟩ := so_1 H
            exact x_iret dX3_readObject_127 rfl (by decide)
          · replace H := ite_p H c22
            refine Ex.sub [] rfl ?_
            exact t_X3_readObject_81 hd H
def f_X3_read_23 (h : aH) : Option (Int32 × aH) :=
  some (0, h)
set_option maxRecDepth 100000 in
set_option maxHeartbeats 4000000 in
theorem t_X3_read_23 {Γ : gS} {d : Nat} (hd : 5 ≤ d) {h : aH} {r : Int32} {h' : aH} (H : f_X3_read_23 h = some (r, h')) : Ex Γ gX3_read d 23 [] [] h (some (.int r)) h' := by
  unfold f_X3_read_23 at H
  obtain ⟨d, rfl⟩ : ∃ e, d = e + 1 := ⟨d - 1, by omega⟩
  refine x_iconst (v := 0) dX3_read_23 (by decide) ?_
  obtain ⟨rfl, rfl⟩ := so_1 H
  exact x_iret dX3_read_24 rfl (by decide)
def f_X3_read_81 (h : aH) : Option (Int32 × aH) :=
  some (0, h)
set_option maxRecDepth 100000 in
set_option maxHeartbeats 4000000 in
theorem t_X3_read_81 {Γ : gS} {d : Nat} (hd : 5 ≤ d) {h : aH} {r : Int32} {h' : aH} (H : f_X3_read_81 h = some (r, h')) : Ex Γ gX3_read d 81 [] [] h (some (.int r)) h' := by
  unfold f_X3_read_81 at H
  obtain ⟨d, rfl⟩ : ∃ e, d = e + 1 := ⟨d - 1, by omega⟩
  refine x_iconst (v := 0) dX3_read_81 (by decide) ?_
  obtain ⟨rfl, rfl⟩ := so_1 H
  exact x_iret dX3_read_82 rfl (by decide)
def f_X3_read_115 (k90 : Nat → Nat → Nat → Int32 → Int32 → Int32 → aH → Option (Int32 × aH)) (x0 : Nat) (x2 : Nat) (x3 : Nat) (x4 : Int32) (x5 : Int32) (x6 : Int32) (s0 : Int32) (h : aH) : Option (Int32 × aH) :=
  ko h x2 9 <|
  kr (hR h x2 0) fun a2 =>
  ka h a2 (.object RX6) fun n5 =>
  chk (inb x6 n5 = true) <|
  kr (hR h a2 x6.toNatClampNeg) fun a7 =>
  bd (f_X3_readCell x0 (8 * x6) a7 s0 x3 h) fun v9 h10 =>
  if v9 = 0 then
    some (0, h10)
  else
    nm (x6 + 1) fun (v13 : Int32) =>
    k90 x0 x2 x3 x4 x5 v13 h10
set_option maxRecDepth 100000 in
set_option maxHeartbeats 4000000 in
theorem t_X3_read_115 {Γ : gS} {d : Nat} (hd : 5 ≤ d) {k90 : Nat → Nat → Nat → Int32 → Int32 → Int32 → aH → Option (Int32 × aH)} (hk90 : ∀ {x0 : Nat} {x2 : Nat} {x3 : Nat} {x4 : Int32} {x5 : Int32} {x6 : Int32} {h : aH} {r : Int32} {h' : aH}, k90 x0 x2 x3 x4 x5 x6 h = some (r, h') → Ex Γ gX3_read d 90 [(0, .ref x0), (2, .ref x2), (3, .ref x3), (4, .int x4), (5, .int x5), (6, .int x6)] [] h (some (.int r)) h') {x0 : Nat} {x2 : Nat} {x3 : Nat} {x4 : Int32} {x5 : Int32} {x6 : Int32} {s0 : Int32} {h : aH} {r : Int32} {h' : aH} (H : f_X3_read_115 k90 x0 x2 x3 x4 x5 x6 s0 h = some (r, h')) : Ex Γ gX3_read d 115 [(0, .ref x0), (2, .ref x2), (3, .ref x3), (4, .int x4), (5, .int x5), (6, .int x6)] [.int s0] h (some (.int r)) h' := by
  unfold f_X3_read_115 at H
  obtain ⟨d, rfl⟩ : ∃ e, d = e + 1 := ⟨d - 1, by omega⟩
  refine x_istore (lv' := [(7, .int s0), (0, .ref x0), (2, .ref x2), (3, .ref x3), (4, .int x4), (5, .int x5), (6, .int x6)]) dX3_read_115 (by decide) rfl rfl ?_
  refine x_aload_n dX3_read_117 rfl 1 rfl ?_
  refine x_bipush (v := 8) dX3_read_118 (by decide) ?_
  refine x_iload dX3_read_120 6 rfl ?_
  refine x_imul dX3_read_122 ?_
  refine x_aload_n dX3_read_123 rfl 2 rfl ?_
  obtain ⟨c1, H⟩ := ko_o H
  obtain ⟨a2, c3, H⟩ := kr_o H
  refine x_getR fr_X3_29 dX3_read_124 c1 rfl c3 ?_
  refine x_iload dX3_read_127 6 rfl ?_
  obtain ⟨n5, c4, H⟩ := ka_o H
  obtain ⟨c6, H⟩ := chk_o H
  obtain ⟨a7, c8, H⟩ := kr_o H
  refine x_aald dX3_read_129 c4 (by decide) (inb_in.mp c6) c8 ?_
  refine x_iload dX3_read_130 0 rfl ?_
  refine x_aload_n dX3_read_132 rfl 3 rfl ?_
  obtain ⟨v9, h10, hc11, H⟩ := bd_o H
  refine x_callSi (As := [.ref x0, .int (8 * x6), .ref a7, .int s0, .ref x3]) dX3_read_133 mi_X3_readCell lk_X3_98 sm_X3_readCell rfl rfl (Nat.le_of_ble_eq_true rfl) (t_X3_readCell (by omega) hc11) ?_
  refine x_if_ne (tgt := 141) dX3_read_136 (by decide) (fun c12 => ?_) (fun c12 => ?_)
  · replace H := ite_m H c12
    obtain ⟨v13, ev13, H⟩ := nm_o H
    refine x_iinc (v := v13) (lv' := [(6, .int v13), (7, .int s0), (0, .ref x0), (2, .ref x2), (3, .ref x3), (4, .int x4), (5, .int x5)]) dX3_read_141 6 rfl (by decide) ev13 rfl ?_
    refine x_goto (tgt := 90) dX3_read_144 (by decide) ?_
    refine Ex.sub [2, 3, 4, 5, 6, 0] rfl ?_
    exact hk90 H
  · replace H := ite_p H c12
    refine x_iconst (v := 0) dX3_read_139 (by decide) ?_
    obtain ⟨rfl, rfl⟩ := so_1 H
    exact x_iret dX3_read_140 rfl (by decide)
def b_X3_read_150 (k150 : Nat → Nat → Nat → Int32 → Int32 → Int32 → aH → Option (Int32 × aH)) (x0 : Nat) (x2 : Nat) (x3 : Nat) (x4 : Int32) (x5 : Int32) (x6 : Int32) (h : aH) : Option (Int32 × aH) :=
  if x5 ≤ x6 then
    some (1, h)
  else
    bd (f_X3_readObject x0 (((8 * x4) + 1) + (6 * x6)) x2 x3 h) fun v15 h16 =>
    if v15 = 0 then
      some (0, h16)
    else
      nm (x6 + 1) fun (v19 : Int32) =>
      k150 x0 x2 x3 x4 x5 v19 h16
set_option maxRecDepth 100000 in
set_option maxHeartbeats 4000000 in
theorem tb_X3_read_150 {Γ : gS} {d : Nat} (hd : 5 ≤ d) {k150 : Nat → Nat → Nat → Int32 → Int32 → Int32 → aH → Option (Int32 × aH)} (hk150 : ∀ {x0 : Nat} {x2 : Nat} {x3 : Nat} {x4 : Int32} {x5 : Int32} {x6 : Int32} {h : aH} {r : Int32} {h' : aH}, k150 x0 x2 x3 x4 x5 x6 h = some (r, h') → Ex Γ gX3_read d 150 [(0, .ref x0), (2, .ref x2), (3, .ref x3), (4, .int x4), (5, .int x5), (6, .int x6)] [] h (some (.int r)) h') {x0 : Nat} {x2 : Nat} {x3 : Nat} {x4 : Int32} {x5 : Int32} {x6 : Int32} {h : aH} {r : Int32} {h' : aH} (H : b_X3_read_150 k150 x0 x2 x3 x4 x5 x6 h = some (r, h')) : Ex Γ gX3_read d 150 [(0, .ref x0), (2, .ref x2), (3, .ref x3), (4, .int x4), (5, .int x5), (6, .int x6)] [] h (some (.int r)) h' := by
  unfold b_X3_read_150 at H
  obtain ⟨d, rfl⟩ : ∃ e, d = e + 1 := ⟨d - 1, by omega⟩
  refine x_iload dX3_read_150 5 rfl ?_
  refine x_iload dX3_read_152 4 rfl ?_
  refine x_icmp_ge (tgt := 187) dX3_read_154 (by decide) (fun c14 => ?_) (fun c14 => ?_)
  · replace H := ite_p H c14
    refine x_iconst (v := 1) dX3_read_187 (by decide) ?_
    obtain ⟨rfl, rfl⟩ := so_1 H
    exact x_iret dX3_read_188 rfl (by decide)
  · replace H := ite_m H c14
    refine x_aload_n dX3_read_157 rfl 0 rfl ?_
    refine x_bipush (v := 8) dX3_read_158 (by decide) ?_
    refine x_iload dX3_read_160 3 rfl ?_
    refine x_imul dX3_read_162 ?_
    refine x_iconst (v := 1) dX3_read_163 (by decide) ?_
    refine x_iadd dX3_read_164 ?_
    refine x_bipush (v := 6) dX3_read_165 (by decide) ?_
    refine x_iload dX3_read_167 5 rfl ?_
    refine x_imul dX3_read_169 ?_
    refine x_iadd dX3_read_170 ?_
    refine x_aload_n dX3_read_171 rfl 1 rfl ?_
    refine x_aload_n dX3_read_172 rfl 2 rfl ?_
    obtain ⟨v15, h16, hc17, H⟩ := bd_o H
    refine x_callSi (As := [.ref x0, .int (((8 * x4) + 1) + (6 * x6)), .ref x2, .ref x3]) dX3_read_173 mi_X3_readObject lk_X3_102 sm_X3_readObject rfl rfl (Nat.le_of_ble_eq_true rfl) (t_X3_readObject (by omega) hc17) ?_
    refine x_if_ne (tgt := 181) dX3_read_176 (by decide) (fun c18 => ?_) (fun c18 => ?_)
    · replace H := ite_m H c18
      obtain ⟨v19, ev19, H⟩ := nm_o H
      refine x_iinc (v := v19) (lv' := [(6, .int v19), (0, .ref x0), (2, .ref x2), (3, .ref x3), (4, .int x4), (5, .int x5)]) dX3_read_181 5 rfl (by decide) ev19 rfl ?_
      refine x_goto (tgt := 150) dX3_read_184 (by decide) ?_
      refine Ex.sub [1, 2, 3, 4, 5, 0] rfl ?_
      exact hk150 H
    · replace H := ite_p H c18
      refine x_iconst (v := 0) dX3_read_179 (by decide) ?_
      obtain ⟨rfl, rfl⟩ := so_1 H
      exact x_iret dX3_read_180 rfl (by decide)
def f_X3_read_150 : Nat → Nat → Nat → Nat → Int32 → Int32 → Int32 → aH → Option (Int32 × aH)
  | 0 => fun _ _ _ _ _ _ _ => none
  | n + 1 => b_X3_read_150 (f_X3_read_150 n)
set_option maxRecDepth 100000 in
set_option maxHeartbeats 4000000 in
theorem t_X3_read_150 {Γ : gS} {d : Nat} (hd : 5 ≤ d) (n : Nat) : ∀ {x0 : Nat} {x2 : Nat} {x3 : Nat} {x4 : Int32} {x5 : Int32} {x6 : Int32} {h : aH} {r : Int32} {h' : aH}, f_X3_read_150 n x0 x2 x3 x4 x5 x6 h = some (r, h') → Ex Γ gX3_read d 150 [(0, .ref x0), (2, .ref x2), (3, .ref x3), (4, .int x4), (5, .int x5), (6, .int x6)] [] h (some (.int r)) h' := by
  induction n with
  | zero => intro x0 x2 x3 x4 x5 x6 h r h' H; cases H
  | succ n ih => intro x0 x2 x3 x4 x5 x6 h r h' H; exact tb_X3_read_150 hd ih H
def b_X3_read_90 (k90 : Nat → Nat → Nat → Int32 → Int32 → Int32 → aH → Option (Int32 × aH)) (x0 : Nat) (x2 : Nat) (x3 : Nat) (x4 : Int32) (x5 : Int32) (x6 : Int32) (h : aH) : Option (Int32 × aH) :=
  if x4 ≤ x6 then
    f_X3_read_150 FU x0 x2 x3 x4 x5 0 h
  else
    if 16 ≤ x6 then
      f_X3_read_115 k90 x0 x2 x3 x4 x5 x6 ((x6 - 16) / 4) h
    else
      f_X3_read_115 k90 x0 x2 x3 x4 x5 x6 (-1) h
set_option maxRecDepth 100000 in
set_option maxHeartbeats 4000000 in
theorem tb_X3_read_90 {Γ : gS} {d : Nat} (hd : 5 ≤ d) {k90 : Nat → Nat → Nat → Int32 → Int32 → Int32 → aH → Option (Int32 × aH)} (hk90 : ∀ {x0 : Nat} {x2 : Nat} {x3 : Nat} {x4 : Int32} {x5 : Int32} {x6 : Int32} {h : aH} {r : Int32} {h' : aH}, k90 x0 x2 x3 x4 x5 x6 h = some (r, h') → Ex Γ gX3_read d 90 [(0, .ref x0), (2, .ref x2), (3, .ref x3), (4, .int x4), (5, .int x5), (6, .int x6)] [] h (some (.int r)) h') {x0 : Nat} {x2 : Nat} {x3 : Nat} {x4 : Int32} {x5 : Int32} {x6 : Int32} {h : aH} {r : Int32} {h' : aH} (H : b_X3_read_90 k90 x0 x2 x3 x4 x5 x6 h = some (r, h')) : Ex Γ gX3_read d 90 [(0, .ref x0), (2, .ref x2), (3, .ref x3), (4, .int x4), (5, .int x5), (6, .int x6)] [] h (some (.int r)) h' := by
  unfold b_X3_read_90 at H
  obtain ⟨d, rfl⟩ : ∃ e, d = e + 1 := ⟨d - 1, by omega⟩
  refine x_iload dX3_read_90 5 rfl ?_
  refine x_iload dX3_read_92 3 rfl ?_
  refine x_icmp_ge (tgt := 147) dX3_read_94 (by decide) (fun c20 => ?_) (fun c20 => ?_)
  · replace H := ite_p H c20
    refine x_iconst (v := 0) dX3_read_147 (by decide) ?_
    refine x_istore (lv' := [(6, .int 0), (0, .ref x0), (2, .ref x2), (3, .ref x3), (4, .int x4), (5, .int x5)]) dX3_read_148 (by decide) rfl rfl ?_
    refine Ex.sub [1, 2, 3, 4, 5, 0] rfl ?_
    exact t_X3_read_150 hd FU H
  · replace H := ite_m H c20
    refine x_iload dX3_read_97 5 rfl ?_
    refine x_bipush (v := 16) dX3_read_99 (by decide) ?_
    refine x_icmp_ge (tgt := 108) dX3_read_101 (by decide) (fun c21 => ?_) (fun c21 => ?_)
    · replace H := ite_p H c21
      refine x_iload dX3_read_108 5 rfl ?_
      refine x_bipush (v := 16) dX3_read_110 (by decide) ?_
      refine x_isub dX3_read_112 ?_
      refine x_iconst (v := 4) dX3_read_113 (by decide) ?_
      refine x_idiv dX3_read_114 (by decide) ?_
      exact t_X3_read_115 hd hk90 H
    · replace H := ite_m H c21
      refine x_iconst (v := (-1)) dX3_read_104 (by decide) ?_
      refine x_goto (tgt := 115) dX3_read_105 (by decide) ?_
      exact t_X3_read_115 hd hk90 H
def f_X3_read_90 : Nat → Nat → Nat → Nat → Int32 → Int32 → Int32 → aH → Option (Int32 × aH)
  | 0 => fun _ _ _ _ _ _ _ => none
  | n + 1 => b_X3_read_90 (f_X3_read_90 n)
set_option maxRecDepth 100000 in
set_option maxHeartbeats 4000000 in
theorem t_X3_read_90 {Γ : gS} {d : Nat} (hd : 5 ≤ d) (n : Nat) : ∀ {x0 : Nat} {x2 : Nat} {x3 : Nat} {x4 : Int32} {x5 : Int32} {x6 : Int32} {h : aH} {r : Int32} {h' : aH}, f_X3_read_90 n x0 x2 x3 x4 x5 x6 h = some (r, h') → Ex Γ gX3_read d 90 [(0, .ref x0), (2, .ref x2), (3, .ref x3), (4, .int x4), (5, .int x5), (6, .int x6)] [] h (some (.int r)) h' := by
  induction n with
  | zero => intro x0 x2 x3 x4 x5 x6 h r h' H; cases H
  | succ n ih => intro x0 x2 x3 x4 x5 x6 h r h' H; exact tb_X3_read_90 hd ih H
def f_X3_read (x0 : Nat) (x1 : Int32) (x2 : Nat) (x3 : Nat) (h : aH) : Option (Int32 × aH) :=
  bd (f_X3_cells x3 h) fun v22 h23 =>
  if x1 < ((8 * v22) + 2) then
    f_X3_read_23 h23
  else
    ka h23 x0 .byte fun n27 =>
    if x1 ≤ (Int32.ofNat n27) then
      chk (inb (8 * v22) n27 = true) <|
      nm ((hI h23 x0 (8 * v22 : Int32).toNatClampNeg) &&& 255) fun (v30 : Int32) =>
      if 32 < v30 then
        f_X3_read_81 h23
      else
        if x1 = (((8 * v22) + (6 * v30)) + 2) then
          bd (f_X3_check x0 (x1 - 1) h23) fun v33 h34 =>
          ka h34 x0 .byte fun n37 =>
          chk (inb (x1 - 1) n37 = true) <|
          if v33 = ((hI h34 x0 (x1 - 1 : Int32).toNatClampNeg) &&& 255) then
            ko h34 x2 9 <|
            bd (f_X9_clear x2 h34) fun _ h41 =>
            f_X3_read_90 FU x0 x2 x3 v22 v30 0 h41
          else
            f_X3_read_81 h34
        else
          f_X3_read_81 h23
    else
      f_X3_read_23 h23
set_option maxRecDepth 100000 in
set_option maxHeartbeats 4000000 in
theorem t_X3_read {Γ : gS} {d : Nat} (hd : 5 ≤ d) {x0 : Nat} {x1 : Int32} {x2 : Nat} {x3 : Nat} {h : aH} {r : Int32} {h' : aH} (H : f_X3_read x0 x1 x2 x3 h = some (r, h')) : Mx Γ gX3_read d [.ref x0, .int x1, .ref x2, .ref x3] h (some (.int r)) h' := by
  refine Mx.of (by decide +kernel) (Nat.le_of_ble_eq_true rfl) ?_
  unfold f_X3_read at H
  show Ex Γ gX3_read d 0 [(0, .ref x0), (1, .int x1), (2, .ref x2), (3, .ref x3)] [] h (some (.int r)) h'
  obtain ⟨d, rfl⟩ : ∃ e, d = e + 1 := ⟨d - 1, by omega⟩
  refine x_aload_n dX3_read_0 rfl 3 rfl ?_
  obtain ⟨v22, h23, hc24, H⟩ := bd_o H
  refine x_callSi (As := [.ref x3]) dX3_read_1 mi_X3_cells lk_X3_25 sm_X3_cells rfl rfl (Nat.le_of_ble_eq_true rfl) (t_X3_cells (by omega) hc24) ?_
  refine x_istore (lv' := [(4, .int v22), (0, .ref x0), (1, .int x1), (2, .ref x2), (3, .ref x3)]) dX3_read_4 (by decide) rfl rfl ?_
  refine x_iload_n dX3_read_6 rfl 2 rfl ?_
  refine x_bipush (v := 8) dX3_read_7 (by decide) ?_
  refine x_iload dX3_read_9 0 rfl ?_
  refine x_imul dX3_read_11 ?_
  refine x_iconst (v := 2) dX3_read_12 (by decide) ?_
  refine x_iadd dX3_read_13 ?_
  refine x_icmp_lt (tgt := 23) dX3_read_14 (by decide) (fun c25 => ?_) (fun c25 => ?_)
  · replace H := ite_p H c25
    refine Ex.sub [] rfl ?_
    exact t_X3_read_23 hd H
  · replace H := ite_m H c25
    refine x_iload_n dX3_read_17 rfl 2 rfl ?_
    refine x_aload_n dX3_read_18 rfl 1 rfl ?_
    obtain ⟨n27, c26, H⟩ := ka_o H
    refine x_alen dX3_read_19 c26 (by decide) ?_
    refine x_icmp_le (tgt := 25) dX3_read_20 (by decide) (fun c28 => ?_) (fun c28 => ?_)
    · replace H := ite_p H c28
      refine x_aload_n dX3_read_25 rfl 1 rfl ?_
      refine x_bipush (v := 8) dX3_read_26 (by decide) ?_
      refine x_iload dX3_read_28 0 rfl ?_
      refine x_imul dX3_read_30 ?_
      obtain ⟨c29, H⟩ := chk_o H
      refine x_bald dX3_read_31 c26 (inb_in.mp c29) ?_
      refine x_sipush (v := 255) dX3_read_32 (by decide) ?_
      refine x_iand dX3_read_35 ?_
      obtain ⟨v30, ev30, H⟩ := nm_o H
      refine x_istore (lv' := [(5, .int v30), (4, .int v22), (0, .ref x0), (1, .int x1), (2, .ref x2), (3, .ref x3)]) dX3_read_36 (by decide) ev30 rfl ?_
      refine x_iload dX3_read_38 0 rfl ?_
      refine x_bipush (v := 32) dX3_read_40 (by decide) ?_
      refine x_icmp_gt (tgt := 81) dX3_read_42 (by decide) (fun c31 => ?_) (fun c31 => ?_)
      · replace H := ite_p H c31
        refine Ex.sub [] rfl ?_
        exact t_X3_read_81 hd H
      · replace H := ite_m H c31
        refine x_iload_n dX3_read_45 rfl 3 rfl ?_
        refine x_bipush (v := 8) dX3_read_46 (by decide) ?_
        refine x_iload dX3_read_48 1 rfl ?_
        refine x_imul dX3_read_50 ?_
        refine x_bipush (v := 6) dX3_read_51 (by decide) ?_
        refine x_iload dX3_read_53 0 rfl ?_
        refine x_imul dX3_read_55 ?_
        refine x_iadd dX3_read_56 ?_
        refine x_iconst (v := 2) dX3_read_57 (by decide) ?_
        refine x_iadd dX3_read_58 ?_
        refine x_icmp_ne (tgt := 81) dX3_read_59 (by decide) (fun c32 => ?_) (fun c32 => ?_)
        · replace H := ite_m H c32
          refine Ex.sub [] rfl ?_
          exact t_X3_read_81 hd H
        · replace H := ite_p H c32
          refine x_aload_n dX3_read_62 rfl 2 rfl ?_
          refine x_iload_n dX3_read_63 rfl 3 rfl ?_
          refine x_iconst (v := 1) dX3_read_64 (by decide) ?_
          refine x_isub dX3_read_65 ?_
          obtain ⟨v33, h34, hc35, H⟩ := bd_o H
          refine x_callSi (As := [.ref x0, .int (x1 - 1)]) dX3_read_66 mi_X3_check lk_X3_53 sm_X3_check rfl rfl (Nat.le_of_ble_eq_true rfl) (t_X3_check (by omega) hc35) ?_
          refine x_aload_n dX3_read_69 rfl 2 rfl ?_
          refine x_iload_n dX3_read_70 rfl 3 rfl ?_
          refine x_iconst (v := 1) dX3_read_71 (by decide) ?_
          refine x_isub dX3_read_72 ?_
          obtain ⟨n37, c36, H⟩ := ka_o H
          obtain ⟨c38, H⟩ := chk_o H
          refine x_bald dX3_read_73 c36 (inb_in.mp c38) ?_
          refine x_sipush (v := 255) dX3_read_74 (by decide) ?_
          refine x_iand dX3_read_77 ?_
          refine x_icmp_eq (tgt := 83) dX3_read_78 (by decide) (fun c39 => ?_) (fun c39 => ?_)
          · replace H := ite_p H c39
            refine x_aload_n dX3_read_83 rfl 4 rfl ?_
            obtain ⟨c43, H⟩ := ko_o H
            obtain ⟨v40, h41, hc42, H⟩ := bd_o H
            refine x_callVv (As := []) (q := (RX9, TX9, 8)) dX3_read_84 mi_X9_clear lk_X3_95 im_X9_clear se_X9_clear rfl c43 rfl rfl (Nat.le_of_ble_eq_true rfl) (t_X9_clear (by omega) hc42) ?_
            refine x_iconst (v := 0) dX3_read_87 (by decide) ?_
            refine x_istore (lv' := [(6, .int 0), (5, .int v30), (4, .int v22), (0, .ref x0), (1, .int x1), (2, .ref x2), (3, .ref x3)]) dX3_read_88 (by decide) rfl rfl ?_
            refine Ex.sub [3, 5, 6, 2, 1, 0] rfl ?_
            exact t_X3_read_90 hd FU H
          · replace H := ite_m H c39
            refine Ex.sub [] rfl ?_
            exact t_X3_read_81 hd H
    · replace H := ite_m H c28
      refine Ex.sub [] rfl ?_
      exact t_X3_read_23 hd H
