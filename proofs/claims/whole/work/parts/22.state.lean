def f_X2_init (x0 : Nat) (h : aH) : Option (Unit × aH) :=
  ko h x0 2 <|
  nm (hN (sI (sI h x0 0 0) x0 1 0)) fun (a3 : Nat) =>
  nm (nw (sI (sI h x0 0 0) x0 1 0) (.inr ((.object RX9), 20)) 20) fun (h2 : aH) =>
  ko h2 x0 2 <|
  some ((), sR h2 x0 2 (some a3))
set_option maxRecDepth 100000 in
set_option maxHeartbeats 4000000 in
theorem t_X2_init {Γ : gS} {d : Nat} (hd : 1 ≤ d) {x0 : Nat} {h : aH} {r : Unit} {h' : aH} (H : f_X2_init x0 h = some (r, h')) : Mx Γ gX2_init d [.ref x0] h none h' := by
  refine Mx.of (by decide +kernel) (Nat.le_of_ble_eq_true rfl) ?_
  unfold f_X2_init at H
  show Ex Γ gX2_init d 0 [(0, .ref x0)] [] h none h'
  obtain ⟨d, rfl⟩ : ∃ e, d = e + 1 := ⟨d - 1, by omega⟩
  refine x_aload_n dX2_init_0 rfl 0 rfl ?_
  refine x_oinit dX2_init_1 lk_X2_1 im_obj co_obj (Nat.le_of_ble_eq_true rfl) ?_
  refine x_aload_n dX2_init_4 rfl 0 rfl ?_
  refine x_iconst (v := 0) dX2_init_5 (by decide) ?_
  obtain ⟨c1, H⟩ := ko_o H
  refine x_putI fl_X2_7 dX2_init_6 c1 (fun e => by cases e) rfl ?_
  refine x_aload_n dX2_init_9 rfl 0 rfl ?_
  refine x_iconst (v := 0) dX2_init_10 (by decide) ?_
  refine x_putI fl_X2_13 dX2_init_11 c1 (fun e => by cases e) rfl ?_
  refine x_aload_n dX2_init_14 rfl 0 rfl ?_
  refine x_bipush (v := 20) dX2_init_15 (by decide) ?_
  obtain ⟨a3, ea3, H⟩ := nm_o H
  obtain ⟨h2, eh2, H⟩ := nm_o H
  refine x_newq (N := 20) dX2_init_17 cl_X2_16 (by decide) (by decide) (by decide) (by decide) ?_
  rw [ea3]
  refine Ex.ren eh2 ?_
  obtain ⟨c4, H⟩ := ko_o H
  refine x_putR fl_X2_18 dX2_init_20 c4 (fun _ => rfl) rfl ?_
  obtain ⟨-, rfl⟩ := so_1 H
  exact x_vret dX2_init_23 rfl
def f_X2_clear (x0 : Nat) (h : aH) : Option (Unit × aH) :=
  ko h x0 2 <|
  some ((), sI h x0 0 0)
set_option maxRecDepth 100000 in
set_option maxHeartbeats 4000000 in
theorem t_X2_clear {Γ : gS} {d : Nat} (hd : 0 ≤ d) {x0 : Nat} {h : aH} {r : Unit} {h' : aH} (H : f_X2_clear x0 h = some (r, h')) : Mx Γ gX2_clear d [.ref x0] h none h' := by
  refine Mx.of (by decide +kernel) (Nat.le_of_ble_eq_true rfl) ?_
  unfold f_X2_clear at H
  show Ex Γ gX2_clear d 0 [(0, .ref x0)] [] h none h'
  refine x_aload_n dX2_clear_0 rfl 0 rfl ?_
  refine x_iconst (v := 0) dX2_clear_1 (by decide) ?_
  obtain ⟨c1, H⟩ := ko_o H
  refine x_putI fl_X2_7 dX2_clear_2 c1 (fun e => by cases e) rfl ?_
  obtain ⟨-, rfl⟩ := so_1 H
  exact x_vret dX2_clear_5 rfl
def b_X9_init_66 (k66 : Nat → Int32 → aH → Option (Unit × aH)) (x0 : Nat) (x1 : Int32) (h : aH) : Option (Unit × aH) :=
  if 32 ≤ x1 then
    some ((), h)
  else
    ko h x0 9 <|
    kr (hR h x0 0) fun a3 =>
    nm (hN h) fun (a6 : Nat) =>
    nm (nw h (.inl 6) 8) fun (h5 : aH) =>
    bd (f_X6_init a6 h5) fun _ h8 =>
    ka h8 a3 (.object RX6) fun n11 =>
    chk (inb x1 n11 = true) <|
    ko h8 a6 6 <|
    nm (x1 + 1) fun (v14 : Int32) =>
    k66 x0 v14 (sR h8 a3 x1.toNatClampNeg (some a6))
set_option maxRecDepth 100000 in
set_option maxHeartbeats 4000000 in
theorem tb_X9_init_66 {Γ : gS} {d : Nat} (hd : 2 ≤ d) {k66 : Nat → Int32 → aH → Option (Unit × aH)} (hk66 : ∀ {x0 : Nat} {x1 : Int32} {h : aH} {r : Unit} {h' : aH}, k66 x0 x1 h = some (r, h') → Ex Γ gX9_init d 66 [(0, .ref x0), (1, .int x1)] [] h none h') {x0 : Nat} {x1 : Int32} {h : aH} {r : Unit} {h' : aH} (H : b_X9_init_66 k66 x0 x1 h = some (r, h')) : Ex Γ gX9_init d 66 [(0, .ref x0), (1, .int x1)] [] h none h' := by
  unfold b_X9_init_66 at H
  obtain ⟨d, rfl⟩ : ∃ e, d = e + 1 := ⟨d - 1, by omega⟩
  refine x_iload_n dX9_init_66 rfl 1 rfl ?_
  refine x_bipush (v := 32) dX9_init_67 (by decide) ?_
  refine x_icmp_ge (tgt := 91) dX9_init_69 (by decide) (fun c1 => ?_) (fun c1 => ?_)
  · replace H := ite_p H c1
    obtain ⟨-, rfl⟩ := so_1 H
    exact x_vret dX9_init_91 rfl
  · replace H := ite_m H c1
    refine x_aload_n dX9_init_72 rfl 0 rfl ?_
    obtain ⟨c2, H⟩ := ko_o H
    obtain ⟨a3, c4, H⟩ := kr_o H
    refine x_getR fr_X9_13 dX9_init_73 c2 rfl c4 ?_
    refine x_iload_n dX9_init_76 rfl 1 rfl ?_
    obtain ⟨a6, ea6, H⟩ := nm_o H
    obtain ⟨h5, eh5, H⟩ := nm_o H
    refine x_new (q := (RX6, TX6, 8)) dX9_init_77 ck6 rfl cl_X9_11 is_X6 ii_X6 ?_
    rw [ea6]
    refine Ex.ren eh5 ?_
    refine x_dup dX9_init_80 rfl ?_
    obtain ⟨v7, h8, hc9, H⟩ := bd_o H
    refine x_callINv (As := []) (host := "FatPointers") dX9_init_81 mi_X6_init (by decide) im_X6_init rfl rfl rfl (Nat.le_of_ble_eq_true rfl) (t_X6_init (by omega) hc9) ?_
    obtain ⟨n11, c10, H⟩ := ka_o H
    obtain ⟨c12, H⟩ := chk_o H
    obtain ⟨c13, H⟩ := ko_o H
    refine x_aast (q := (RX6, TX6, 8)) dX9_init_84 rfl c10 (by decide) (inb_in.mp c12) c13 ?_
    obtain ⟨v14, ev14, H⟩ := nm_o H
    refine x_iinc (v := v14) (lv' := [(1, .int v14), (0, .ref x0)]) dX9_init_85 1 rfl (by decide) ev14 rfl ?_
    refine x_goto (tgt := 66) dX9_init_88 (by decide) ?_
    refine Ex.sub [1, 0] rfl ?_
    exact hk66 H
def f_X9_init_66 : Nat → Nat → Int32 → aH → Option (Unit × aH)
  | 0 => fun _ _ _ => none
  | n + 1 => b_X9_init_66 (f_X9_init_66 n)
set_option maxRecDepth 100000 in
set_option maxHeartbeats 4000000 in
theorem t_X9_init_66 {Γ : gS} {d : Nat} (hd : 2 ≤ d) (n : Nat) : ∀ {x0 : Nat} {x1 : Int32} {h : aH} {r : Unit} {h' : aH}, f_X9_init_66 n x0 x1 h = some (r, h') → Ex Γ gX9_init d 66 [(0, .ref x0), (1, .int x1)] [] h none h' := by
  induction n with
  | zero => intro x0 x1 h r h' H; cases H
  | succ n ih => intro x0 x1 h r h' H; exact tb_X9_init_66 hd ih H
def f_X9_init (x0 : Nat) (h : aH) : Option (Unit × aH) :=
  nm (hN h) fun (a16 : Nat) =>
  nm (nw h (.inr ((.object RX6), 32)) 32) fun (h15 : aH) =>
  ko h15 x0 9 <|
  nm (hN (sR h15 x0 0 (some a16))) fun (a19 : Nat) =>
  nm (nw (sR h15 x0 0 (some a16)) (.inr (.int, 32)) 32) fun (h18 : aH) =>
  ko h18 x0 9 <|
  nm (hN (sR h18 x0 1 (some a19))) fun (a22 : Nat) =>
  nm (nw (sR h18 x0 1 (some a19)) (.inr (.int, 32)) 32) fun (h21 : aH) =>
  ko h21 x0 9 <|
  nm (hN (sR h21 x0 2 (some a22))) fun (a25 : Nat) =>
  nm (nw (sR h21 x0 2 (some a22)) (.inr (.int, 32)) 32) fun (h24 : aH) =>
  ko h24 x0 9 <|
  nm (hN (sR h24 x0 3 (some a25))) fun (a28 : Nat) =>
  nm (nw (sR h24 x0 3 (some a25)) (.inr (.int, 120)) 120) fun (h27 : aH) =>
  ko h27 x0 9 <|
  nm (hN (sR h27 x0 4 (some a28))) fun (a31 : Nat) =>
  nm (nw (sR h27 x0 4 (some a28)) (.inr (.int, 256)) 256) fun (h30 : aH) =>
  ko h30 x0 9 <|
  f_X9_init_66 FU x0 0 (sI (sI (sR h30 x0 5 (some a31)) x0 6 0) x0 7 0)
set_option maxRecDepth 100000 in
set_option maxHeartbeats 4000000 in
theorem t_X9_init {Γ : gS} {d : Nat} (hd : 2 ≤ d) {x0 : Nat} {h : aH} {r : Unit} {h' : aH} (H : f_X9_init x0 h = some (r, h')) : Mx Γ gX9_init d [.ref x0] h none h' := by
  refine Mx.of (by decide +kernel) (Nat.le_of_ble_eq_true rfl) ?_
  unfold f_X9_init at H
  show Ex Γ gX9_init d 0 [(0, .ref x0)] [] h none h'
  obtain ⟨d, rfl⟩ : ∃ e, d = e + 1 := ⟨d - 1, by omega⟩
  refine x_aload_n dX9_init_0 rfl 0 rfl ?_
  refine x_oinit dX9_init_1 lk_X9_3 im_obj co_obj (Nat.le_of_ble_eq_true rfl) ?_
  refine x_aload_n dX9_init_4 rfl 0 rfl ?_
  refine x_bipush (v := 32) dX9_init_5 (by decide) ?_
  obtain ⟨a16, ea16, H⟩ := nm_o H
  obtain ⟨h15, eh15, H⟩ := nm_o H
  refine x_newq (N := 32) dX9_init_7 cl_X9_11 (by decide) (by decide) (by decide) (by decide) ?_
  rw [ea16]
  refine Ex.ren eh15 ?_
  obtain ⟨c17, H⟩ := ko_o H
  refine x_putR fl_X9_13 dX9_init_10 c17 (fun _ => rfl) rfl ?_
  refine x_aload_n dX9_init_13 rfl 0 rfl ?_
  refine x_bipush (v := 32) dX9_init_14 (by decide) ?_
  obtain ⟨a19, ea19, H⟩ := nm_o H
  obtain ⟨h18, eh18, H⟩ := nm_o H
  refine x_newa (t := .int) (N := 32) dX9_init_16 rfl (by decide) rfl ac_int (by decide) (by decide) (by decide) ?_
  rw [ea19]
  refine Ex.ren eh18 ?_
  obtain ⟨c20, H⟩ := ko_o H
  refine x_putR fl_X9_17 dX9_init_18 c20 (fun _ => rfl) rfl ?_
  refine x_aload_n dX9_init_21 rfl 0 rfl ?_
  refine x_bipush (v := 32) dX9_init_22 (by decide) ?_
  obtain ⟨a22, ea22, H⟩ := nm_o H
  obtain ⟨h21, eh21, H⟩ := nm_o H
  refine x_newa (t := .int) (N := 32) dX9_init_24 rfl (by decide) rfl ac_int (by decide) (by decide) (by decide) ?_
  rw [ea22]
  refine Ex.ren eh21 ?_
  obtain ⟨c23, H⟩ := ko_o H
  refine x_putR fl_X9_21 dX9_init_26 c23 (fun _ => rfl) rfl ?_
  refine x_aload_n dX9_init_29 rfl 0 rfl ?_
  refine x_bipush (v := 32) dX9_init_30 (by decide) ?_
  obtain ⟨a25, ea25, H⟩ := nm_o H
  obtain ⟨h24, eh24, H⟩ := nm_o H
  refine x_newa (t := .int) (N := 32) dX9_init_32 rfl (by decide) rfl ac_int (by decide) (by decide) (by decide) ?_
  rw [ea25]
  refine Ex.ren eh24 ?_
  obtain ⟨c26, H⟩ := ko_o H
  refine x_putR fl_X9_24 dX9_init_34 c26 (fun _ => rfl) rfl ?_
  refine x_aload_n dX9_init_37 rfl 0 rfl ?_
  refine x_bipush (v := 120) dX9_init_38 (by decide) ?_
  obtain ⟨a28, ea28, H⟩ := nm_o H
  obtain ⟨h27, eh27, H⟩ := nm_o H
  refine x_newa (t := .int) (N := 120) dX9_init_40 rfl (by decide) rfl ac_int (by decide) (by decide) (by decide) ?_
  rw [ea28]
  refine Ex.ren eh27 ?_
  obtain ⟨c29, H⟩ := ko_o H
  refine x_putR fl_X9_27 dX9_init_42 c29 (fun _ => rfl) rfl ?_
  refine x_aload_n dX9_init_45 rfl 0 rfl ?_
  refine x_sipush (v := 256) dX9_init_46 (by decide) ?_
  obtain ⟨a31, ea31, H⟩ := nm_o H
  obtain ⟨h30, eh30, H⟩ := nm_o H
  refine x_newa (t := .int) (N := 256) dX9_init_49 rfl (by decide) rfl ac_int (by decide) (by decide) (by decide) ?_
  rw [ea31]
  refine Ex.ren eh30 ?_
  obtain ⟨c32, H⟩ := ko_o H
  refine x_putR fl_X9_30 dX9_init_51 c32 (fun _ => rfl) rfl ?_
  refine x_aload_n dX9_init_54 rfl 0 rfl ?_
  refine x_iconst (v := 0) dX9_init_55 (by decide) ?_
  refine x_putI fl_X9_33 dX9_init_56 c32 (fun e => by cases e) rfl ?_
  refine x_aload_n dX9_init_59 rfl 0 rfl ?_
  refine x_iconst (v := 0) dX9_init_60 (by decide) ?_
  refine x_putI fl_X9_37 dX9_init_61 c32 (fun e => by cases e) rfl ?_
  refine x_iconst (v := 0) dX9_init_64 (by decide) ?_
  refine x_istore_n (lv' := [(1, .int 0), (0, .ref x0)]) dX9_init_65 rfl (by decide) rfl rfl ?_
  refine Ex.sub [1, 0] rfl ?_
  exact t_X9_init_66 hd FU H
def b_X9_become_2 (k2 : Nat → Nat → Int32 → aH → Option (Unit × aH)) (x0 : Nat) (x1 : Nat) (x2 : Int32) (h : aH) : Option (Unit × aH) :=
  if 32 ≤ x2 then
    ko h x1 9 <|
    kr (hR h x1 1) fun a3 =>
    ko h x0 9 <|
    kr (hR h x0 1) fun a6 =>
    ka h a3 .int fun n9 =>
    ka h a6 .int fun n11 =>
    chk (¬ (0 : Int32) < 0 ∧ ¬ (0 : Int32) < 0 ∧ ¬ (32 : Int32) < 0 ∧ (0 : Int32).toNatClampNeg + (32 : Int32).toNatClampNeg ≤ n9 ∧ (0 : Int32).toNatClampNeg + (32 : Int32).toNatClampNeg ≤ n11) <|
    nm (acp h a3 (0 : Int32).toNatClampNeg a6 (0 : Int32).toNatClampNeg (32 : Int32).toNatClampNeg) fun (h13 : aH) =>
    ko h13 x1 9 <|
    kr (hR h13 x1 2) fun a15 =>
    ko h13 x0 9 <|
    kr (hR h13 x0 2) fun a18 =>
    ka h13 a15 .int fun n21 =>
    ka h13 a18 .int fun n23 =>
    chk (¬ (0 : Int32) < 0 ∧ ¬ (0 : Int32) < 0 ∧ ¬ (32 : Int32) < 0 ∧ (0 : Int32).toNatClampNeg + (32 : Int32).toNatClampNeg ≤ n21 ∧ (0 : Int32).toNatClampNeg + (32 : Int32).toNatClampNeg ≤ n23) <|
    nm (acp h13 a15 (0 : Int32).toNatClampNeg a18 (0 : Int32).toNatClampNeg (32 : Int32).toNatClampNeg) fun (h25 : aH) =>
    ko h25 x1 9 <|
    kr (hR h25 x1 3) fun a27 =>
    ko h25 x0 9 <|
    kr (hR h25 x0 3) fun a30 =>
    ka h25 a27 .int fun n33 =>
    ka h25 a30 .int fun n35 =>
    chk (¬ (0 : Int32) < 0 ∧ ¬ (0 : Int32) < 0 ∧ ¬ (32 : Int32) < 0 ∧ (0 : Int32).toNatClampNeg + (32 : Int32).toNatClampNeg ≤ n33 ∧ (0 : Int32).toNatClampNeg + (32 : Int32).toNatClampNeg ≤ n35) <|
    nm (acp h25 a27 (0 : Int32).toNatClampNeg a30 (0 : Int32).toNatClampNeg (32 : Int32).toNatClampNeg) fun (h37 : aH) =>
    ko h37 x1 9 <|
    kr (hR h37 x1 4) fun a39 =>
    ko h37 x0 9 <|
    kr (hR h37 x0 4) fun a42 =>
    ka h37 a42 .int fun n45 =>
    ka h37 a39 .int fun n47 =>
    chk (¬ (0 : Int32) < 0 ∧ ¬ (0 : Int32) < 0 ∧ ¬ (Int32.ofNat n45 : Int32) < 0 ∧ (0 : Int32).toNatClampNeg + (Int32.ofNat n45 : Int32).toNatClampNeg ≤ n47 ∧ (0 : Int32).toNatClampNeg + (Int32.ofNat n45 : Int32).toNatClampNeg ≤ n45) <|
    nm (acp h37 a39 (0 : Int32).toNatClampNeg a42 (0 : Int32).toNatClampNeg (Int32.ofNat n45 : Int32).toNatClampNeg) fun (h49 : aH) =>
    ko h49 x1 9 <|
    kr (hR h49 x1 5) fun a51 =>
    ko h49 x0 9 <|
    kr (hR h49 x0 5) fun a54 =>
    ka h49 a54 .int fun n57 =>
    ka h49 a51 .int fun n59 =>
    chk (¬ (0 : Int32) < 0 ∧ ¬ (0 : Int32) < 0 ∧ ¬ (Int32.ofNat n57 : Int32) < 0 ∧ (0 : Int32).toNatClampNeg + (Int32.ofNat n57 : Int32).toNatClampNeg ≤ n59 ∧ (0 : Int32).toNatClampNeg + (Int32.ofNat n57 : Int32).toNatClampNeg ≤ n57) <|
    nm (acp h49 a51 (0 : Int32).toNatClampNeg a54 (0 : Int32).toNatClampNeg (Int32.ofNat n57 : Int32).toNatClampNeg) fun (h61 : aH) =>
    ko h61 x1 9 <|
    ko h61 x0 9 <|
    nm (hI (sI h61 x0 6 (hI h61 x1 6)) x1 7) fun (v64 : Int32) =>
    some ((), sI (sI h61 x0 6 (hI h61 x1 6)) x0 7 v64)
  else
    ko h x0 9 <|
    kr (hR h x0 0) fun a66 =>
    ka h a66 (.object RX6) fun n69 =>
    chk (inb x2 n69 = true) <|
    kr (hR h a66 x2.toNatClampNeg) fun a71 =>
    ko h x1 9 <|
    kr (hR h x1 0) fun a74 =>
    ka h a74 (.object RX6) fun n77 =>
    chk (inb x2 n77 = true) <|
    kr (hR h a74 x2.toNatClampNeg) fun a79 =>
    ko h a71 6 <|
    bd (f_X6_become a71 a79 h) fun _ h82 =>
    nm (x2 + 1) fun (v84 : Int32) =>
    k2 x0 x1 v84 h82
set_option maxRecDepth 100000 in
set_option maxHeartbeats 4000000 in
theorem tb_X9_become_2 {Γ : gS} {d : Nat} (hd : 1 ≤ d) {k2 : Nat → Nat → Int32 → aH → Option (Unit × aH)} (hk2 : ∀ {x0 : Nat} {x1 : Nat} {x2 : Int32} {h : aH} {r : Unit} {h' : aH}, k2 x0 x1 x2 h = some (r, h') → Ex Γ gX9_become d 2 [(0, .ref x0), (1, .ref x1), (2, .int x2)] [] h none h') {x0 : Nat} {x1 : Nat} {x2 : Int32} {h : aH} {r : Unit} {h' : aH} (H : b_X9_become_2 k2 x0 x1 x2 h = some (r, h')) : Ex Γ gX9_become d 2 [(0, .ref x0), (1, .ref x1), (2, .int x2)] [] h none h' := by
  unfold b_X9_become_2 at H
  obtain ⟨d, rfl⟩ : ∃ e, d = e + 1 := ⟨d - 1, by omega⟩
  refine x_iload_n dX9_become_2 rfl 2 rfl ?_
  refine x_bipush (v := 32) dX9_become_3 (by decide) ?_
  refine x_icmp_ge (tgt := 29) dX9_become_5 (by decide) (fun c1 => ?_) (fun c1 => ?_)
  · replace H := ite_p H c1
    refine x_aload_n dX9_become_29 rfl 1 rfl ?_
    obtain ⟨c2, H⟩ := ko_o H
    obtain ⟨a3, c4, H⟩ := kr_o H
    refine x_getR fr_X9_17 dX9_become_30 c2 rfl c4 ?_
    refine x_iconst (v := 0) dX9_become_33 (by decide) ?_
    refine x_aload_n dX9_become_34 rfl 0 rfl ?_
    obtain ⟨c5, H⟩ := ko_o H
    obtain ⟨a6, c7, H⟩ := kr_o H
    refine x_getR fr_X9_17 dX9_become_35 c5 rfl c7 ?_
    refine x_iconst (v := 0) dX9_become_38 (by decide) ?_
    refine x_bipush (v := 32) dX9_become_39 (by decide) ?_
    obtain ⟨n9, c8, H⟩ := ka_o H
    obtain ⟨n11, c10, H⟩ := ka_o H
    obtain ⟨⟨c121, c122, c123, c124, c125⟩, H⟩ := chk_o H
    obtain ⟨h13, eh13, H⟩ := nm_o H
    refine x_acopy dX9_become_41 lk_X9_55 na_acp sm_acp ii_J10 c8 c10 c121 c122 c123 c124 c125 (Nat.le_of_ble_eq_true rfl) ?_
    refine Ex.ren eh13 ?_
    refine x_aload_n dX9_become_44 rfl 1 rfl ?_
    obtain ⟨c14, H⟩ := ko_o H
    obtain ⟨a15, c16, H⟩ := kr_o H
    refine x_getR fr_X9_21 dX9_become_45 c14 rfl c16 ?_
    refine x_iconst (v := 0) dX9_become_48 (by decide) ?_
    refine x_aload_n dX9_become_49 rfl 0 rfl ?_
    obtain ⟨c17, H⟩ := ko_o H
    obtain ⟨a18, c19, H⟩ := kr_o H
    refine x_getR fr_X9_21 dX9_become_50 c17 rfl c19 ?_
    refine x_iconst (v := 0) dX9_become_53 (by decide) ?_
    refine x_bipush (v := 32) dX9_become_54 (by decide) ?_
    obtain ⟨n21, c20, H⟩ := ka_o H
    obtain ⟨n23, c22, H⟩ := ka_o H
    obtain ⟨⟨c241, c242, c243, c244, c245⟩, H⟩ := chk_o H
    obtain ⟨h25, eh25, H⟩ := nm_o H
    refine x_acopy dX9_become_56 lk_X9_55 na_acp sm_acp ii_J10 c20 c22 c241 c242 c243 c244 c245 (Nat.le_of_ble_eq_true rfl) ?_
    refine Ex.ren eh25 ?_
    refine x_aload_n dX9_become_59 rfl 1 rfl ?_
    obtain ⟨c26, H⟩ := ko_o H
    obtain ⟨a27, c28, H⟩ := kr_o H
    refine x_getR fr_X9_24 dX9_become_60 c26 rfl c28 ?_
    refine x_iconst (v := 0) dX9_become_63 (by decide) ?_
    refine x_aload_n dX9_become_64 rfl 0 rfl ?_
    obtain ⟨c29, H⟩ := ko_o H
    obtain ⟨a30, c31, H⟩ := kr_o H
    refine x_getR fr_X9_24 dX9_become_65 c29 rfl c31 ?_
    refine x_iconst (v := 0) dX9_become_68 (by decide) ?_
    refine x_bipush (v := 32) dX9_become_69 (by decide) ?_
    obtain ⟨n33, c32, H⟩ := ka_o H
    obtain ⟨n35, c34, H⟩ := ka_o H
    obtain ⟨⟨c361, c362, c363, c364, c365⟩, H⟩ := chk_o H
    obtain ⟨h37, eh37, H⟩ := nm_o H
    refine x_acopy dX9_become_71 lk_X9_55 na_acp sm_acp ii_J10 c32 c34 c361 c362 c363 c364 c365 (Nat.le_of_ble_eq_true rfl) ?_
    refine Ex.ren eh37 ?_
    refine x_aload_n dX9_become_74 rfl 1 rfl ?_
    obtain ⟨c38, H⟩ := ko_o H
    obtain ⟨a39, c40, H⟩ := kr_o H
    refine x_getR fr_X9_27 dX9_become_75 c38 rfl c40 ?_
    refine x_iconst (v := 0) dX9_become_78 (by decide) ?_
    refine x_aload_n dX9_become_79 rfl 0 rfl ?_
    obtain ⟨c41, H⟩ := ko_o H
    obtain ⟨a42, c43, H⟩ := kr_o H
    refine x_getR fr_X9_27 dX9_become_80 c41 rfl c43 ?_
    refine x_iconst (v := 0) dX9_become_83 (by decide) ?_
    refine x_aload_n dX9_become_84 rfl 0 rfl ?_
    refine x_getR fr_X9_27 dX9_become_85 c41 rfl c43 ?_
    obtain ⟨n45, c44, H⟩ := ka_o H
    refine x_alen dX9_become_88 c44 (by decide) ?_
    obtain ⟨n47, c46, H⟩ := ka_o H
    obtain ⟨⟨c481, c482, c483, c484, c485⟩, H⟩ := chk_o H
    obtain ⟨h49, eh49, H⟩ := nm_o H
    refine x_acopy dX9_become_89 lk_X9_55 na_acp sm_acp ii_J10 c46 c44 c481 c482 c483 c484 c485 (Nat.le_of_ble_eq_true rfl) ?_
    refine Ex.ren eh49 ?_
    refine x_aload_n dX9_become_92 rfl 1 rfl ?_
    obtain ⟨c50, H⟩ := ko_o H
    obtain ⟨a51, c52, H⟩ := kr_o H
    refine x_getR fr_X9_30 dX9_become_93 c50 rfl c52 ?_
    refine x_iconst (v := 0) dX9_become_96 (by decide) ?_
    refine x_aload_n dX9_become_97 rfl 0 rfl ?_
    obtain ⟨c53, H⟩ := ko_o H
    obtain ⟨a54, c55, H⟩ := kr_o H
    refine x_getR fr_X9_30 dX9_become_98 c53 rfl c55 ?_
    refine x_iconst (v := 0) dX9_become_101 (by decide) ?_
    refine x_aload_n dX9_become_102 rfl 0 rfl ?_
    refine x_getR fr_X9_30 dX9_become_103 c53 rfl c55 ?_
    obtain ⟨n57, c56, H⟩ := ka_o H
    refine x_alen dX9_become_106 c56 (by decide) ?_
    obtain ⟨n59, c58, H⟩ := ka_o H
    obtain ⟨⟨c601, c602, c603, c604, c605⟩, H⟩ := chk_o H
    obtain ⟨h61, eh61, H⟩ := nm_o H
    refine x_acopy dX9_become_107 lk_X9_55 na_acp sm_acp ii_J10 c58 c56 c601 c602 c603 c604 c605 (Nat.le_of_ble_eq_true rfl) ?_
    refine Ex.ren eh61 ?_
    refine x_aload_n dX9_become_110 rfl 0 rfl ?_
    refine x_aload_n dX9_become_111 rfl 1 rfl ?_
    obtain ⟨c62, H⟩ := ko_o H
    refine x_getI fr_X9_33 dX9_become_112 c62 rfl ?_
    obtain ⟨c63, H⟩ := ko_o H
    refine x_putI fl_X9_33 dX9_become_115 c63 (fun e => by cases e) rfl ?_
    refine x_aload_n dX9_become_118 rfl 0 rfl ?_
    refine x_aload_n dX9_become_119 rfl 1 rfl ?_
    obtain ⟨v64, ev64, H⟩ := nm_o H
    refine x_getIe fr_X9_37 dX9_become_120 c62 rfl ev64 ?_
    refine x_putI fl_X9_37 dX9_become_123 c63 (fun e => by cases e) rfl ?_
    obtain ⟨-, rfl⟩ := so_1 H
    exact x_vret dX9_become_126 rfl
  · replace H := ite_m H c1
    refine x_aload_n dX9_become_8 rfl 0 rfl ?_
    obtain ⟨c65, H⟩ := ko_o H
    obtain ⟨a66, c67, H⟩ := kr_o H
    refine x_getR fr_X9_13 dX9_become_9 c65 rfl c67 ?_
    refine x_iload_n dX9_become_12 rfl 2 rfl ?_
    obtain ⟨n69, c68, H⟩ := ka_o H
    obtain ⟨c70, H⟩ := chk_o H
    obtain ⟨a71, c72, H⟩ := kr_o H
    refine x_aald dX9_become_13 c68 (by decide) (inb_in.mp c70) c72 ?_
    refine x_aload_n dX9_become_14 rfl 1 rfl ?_
    obtain ⟨c73, H⟩ := ko_o H
    obtain ⟨a74, c75, H⟩ := kr_o H
    refine x_getR fr_X9_13 dX9_become_15 c73 rfl c75 ?_
    refine x_iload_n dX9_become_18 rfl 2 rfl ?_
    obtain ⟨n77, c76, H⟩ := ka_o H
    obtain ⟨c78, H⟩ := chk_o H
    obtain ⟨a79, c80, H⟩ := kr_o H
    refine x_aald dX9_become_19 c76 (by decide) (inb_in.mp c78) c80 ?_
    obtain ⟨c85, H⟩ := ko_o H
    obtain ⟨v81, h82, hc83, H⟩ := bd_o H
    refine x_callVv (As := [.ref a79]) (q := (RX6, TX6, 8)) dX9_become_20 mi_X6_become lk_X9_51 im_X6_become se_X6_become rfl c85 rfl rfl (Nat.le_of_ble_eq_true rfl) (t_X6_become (by omega) hc83) ?_
    obtain ⟨v84, ev84, H⟩ := nm_o H
    refine x_iinc (v := v84) (lv' := [(2, .int v84), (0, .ref x0), (1, .ref x1)]) dX9_become_23 2 rfl (by decide) ev84 rfl ?_
    refine x_goto (tgt := 2) dX9_become_26 (by decide) ?_
    refine Ex.sub [1, 2, 0] rfl ?_
    exact hk2 H
def f_X9_become_2 : Nat → Nat → Nat → Int32 → aH → Option (Unit × aH)
  | 0 => fun _ _ _ _ => none
  | n + 1 => b_X9_become_2 (f_X9_become_2 n)
set_option maxRecDepth 100000 in
set_option maxHeartbeats 4000000 in
theorem t_X9_become_2 {Γ : gS} {d : Nat} (hd : 1 ≤ d) (n : Nat) : ∀ {x0 : Nat} {x1 : Nat} {x2 : Int32} {h : aH} {r : Unit} {h' : aH}, f_X9_become_2 n x0 x1 x2 h = some (r, h') → Ex Γ gX9_become d 2 [(0, .ref x0), (1, .ref x1), (2, .int x2)] [] h none h' := by
  induction n with
  | zero => intro x0 x1 x2 h r h' H; cases H
  | succ n ih => intro x0 x1 x2 h r h' H; exact tb_X9_become_2 hd ih H
def f_X9_become (x0 : Nat) (x1 : Nat) (h : aH) : Option (Unit × aH) :=
  f_X9_become_2 FU x0 x1 0 h
set_option maxRecDepth 100000 in
set_option maxHeartbeats 4000000 in
theorem t_X9_become {Γ : gS} {d : Nat} (hd : 1 ≤ d) {x0 : Nat} {x1 : Nat} {h : aH} {r : Unit} {h' : aH} (H : f_X9_become x0 x1 h = some (r, h')) : Mx Γ gX9_become d [.ref x0, .ref x1] h none h' := by
  refine Mx.of (by decide +kernel) (Nat.le_of_ble_eq_true rfl) ?_
  unfold f_X9_become at H
  show Ex Γ gX9_become d 0 [(0, .ref x0), (1, .ref x1)] [] h none h'
  obtain ⟨d, rfl⟩ : ∃ e, d = e + 1 := ⟨d - 1, by omega⟩
  refine x_iconst (v := 0) dX9_become_0 (by decide) ?_
  refine x_istore_n (lv' := [(2, .int 0), (0, .ref x0), (1, .ref x1)]) dX9_become_1 rfl (by decide) rfl rfl ?_
  refine Ex.sub [1, 2, 0] rfl ?_
  exact t_X9_become_2 hd FU H
def f_X2_keep_63 (x0 : Nat) (s0 : Nat) (s1 : Int32) (h : aH) : Option (Unit × aH) :=
  ko h s0 2 <|
  ko h x0 2 <|
  nm (hI (sI h s0 1 s1) x0 0) fun (v3 : Int32) =>
  bd (f_J9_min_7cf53 20 (v3 + 1) (sI h s0 1 s1)) fun v4 h5 =>
  ko h5 x0 2 <|
  some ((), sI h5 x0 0 v4)
set_option maxRecDepth 100000 in
set_option maxHeartbeats 4000000 in
theorem t_X2_keep_63 {Γ : gS} {d : Nat} (hd : 3 ≤ d) {x0 : Nat} {s0 : Nat} {s1 : Int32} {h : aH} {r : Unit} {h' : aH} (H : f_X2_keep_63 x0 s0 s1 h = some (r, h')) : Ex Γ gX2_keep d 63 [(0, .ref x0)] [.int s1, .ref s0] h none h' := by
  unfold f_X2_keep_63 at H
  obtain ⟨d, rfl⟩ : ∃ e, d = e + 1 := ⟨d - 1, by omega⟩
  obtain ⟨c1, H⟩ := ko_o H
  refine x_putI fl_X2_13 dX2_keep_63 c1 (fun e => by cases e) rfl ?_
  refine x_aload_n dX2_keep_66 rfl 0 rfl ?_
  refine x_bipush (v := 20) dX2_keep_67 (by decide) ?_
  refine x_aload_n dX2_keep_69 rfl 0 rfl ?_
  obtain ⟨c2, H⟩ := ko_o H
  obtain ⟨v3, ev3, H⟩ := nm_o H
  refine x_getIe fr_X2_7 dX2_keep_70 c2 rfl ev3 ?_
  refine x_iconst (v := 1) dX2_keep_73 (by decide) ?_
  refine x_iadd dX2_keep_74 ?_
  obtain ⟨v4, h5, hc6, H⟩ := bd_o H
  refine x_callSi (As := [.int 20, .int (v3 + 1)]) dX2_keep_75 mi_J9_min_7cf53 lk_X2_27 sm_J9_min_7cf53 rfl rfl (Nat.le_of_ble_eq_true rfl) (t_J9_min_7cf53 (by omega) hc6) ?_
  obtain ⟨c7, H⟩ := ko_o H
  refine x_putI fl_X2_7 dX2_keep_78 c7 (fun e => by cases e) rfl ?_
  obtain ⟨-, rfl⟩ := so_1 H
  exact x_vret dX2_keep_81 rfl
def f_X2_keep_28 (x0 : Nat) (x1 : Nat) (h : aH) : Option (Unit × aH) :=
  ko h x0 2 <|
  kr (hR h x0 2) fun a9 =>
  ka h a9 (.object RX9) fun n12 =>
  chk (inb (hI h x0 1) n12 = true) <|
  kr (hR h a9 (hI h x0 1 : Int32).toNatClampNeg) fun a14 =>
  ko h a14 9 <|
  bd (f_X9_become a14 x1 h) fun _ h17 =>
  ko h17 x0 2 <|
  if 20 ≤ ((hI h17 x0 1) + 1) then
    f_X2_keep_63 x0 x0 0 h17
  else
    f_X2_keep_63 x0 x0 ((hI h17 x0 1) + 1) h17
set_option maxRecDepth 100000 in
set_option maxHeartbeats 4000000 in
theorem t_X2_keep_28 {Γ : gS} {d : Nat} (hd : 3 ≤ d) {x0 : Nat} {x1 : Nat} {h : aH} {r : Unit} {h' : aH} (H : f_X2_keep_28 x0 x1 h = some (r, h')) : Ex Γ gX2_keep d 28 [(0, .ref x0), (1, .ref x1)] [] h none h' := by
  unfold f_X2_keep_28 at H
  obtain ⟨d, rfl⟩ : ∃ e, d = e + 1 := ⟨d - 1, by omega⟩
  refine x_aload_n dX2_keep_28 rfl 0 rfl ?_
  obtain ⟨c8, H⟩ := ko_o H
  obtain ⟨a9, c10, H⟩ := kr_o H
  refine x_getR fr_X2_18 dX2_keep_29 c8 rfl c10 ?_
  refine x_aload_n dX2_keep_32 rfl 0 rfl ?_
  refine x_getI fr_X2_13 dX2_keep_33 c8 rfl ?_
  obtain ⟨n12, c11, H⟩ := ka_o H
  obtain ⟨c13, H⟩ := chk_o H
  obtain ⟨a14, c15, H⟩ := kr_o H
  refine x_aald dX2_keep_36 c11 (by decide) (inb_in.mp c13) c15 ?_
  refine x_aload_n dX2_keep_37 rfl 1 rfl ?_
  obtain ⟨c21, H⟩ := ko_o H
  obtain ⟨v16, h17, hc18, H⟩ := bd_o H
  refine x_callVv (As := [.ref x1]) (q := (RX9, TX9, 8)) dX2_keep_38 mi_X9_become lk_X2_23 im_X9_become se_X9_become rfl c21 rfl rfl (Nat.le_of_ble_eq_true rfl) (t_X9_become (by omega) hc18) ?_
  refine x_aload_n dX2_keep_41 rfl 0 rfl ?_
  refine x_aload_n dX2_keep_42 rfl 0 rfl ?_
  obtain ⟨c19, H⟩ := ko_o H
  refine x_getI fr_X2_13 dX2_keep_43 c19 rfl ?_
  refine x_iconst (v := 1) dX2_keep_46 (by decide) ?_
  refine x_iadd dX2_keep_47 ?_
  refine x_bipush (v := 20) dX2_keep_48 (by decide) ?_
  refine x_icmp_ge (tgt := 62) dX2_keep_50 (by decide) (fun c20 => ?_) (fun c20 => ?_)
  · replace H := ite_p H c20
    refine x_iconst (v := 0) dX2_keep_62 (by decide) ?_
    refine Ex.sub [0] rfl ?_
    exact t_X2_keep_63 hd H
  · replace H := ite_m H c20
    refine x_aload_n dX2_keep_53 rfl 0 rfl ?_
    refine x_getI fr_X2_13 dX2_keep_54 c19 rfl ?_
    refine x_iconst (v := 1) dX2_keep_57 (by decide) ?_
    refine x_iadd dX2_keep_58 ?_
    refine x_goto (tgt := 63) dX2_keep_59 (by decide) ?_
    refine Ex.sub [0] rfl ?_
    exact t_X2_keep_63 hd H
def f_X2_keep (x0 : Nat) (x1 : Nat) (h : aH) : Option (Unit × aH) :=
  ko h x0 2 <|
  kr (hR h x0 2) fun a23 =>
  ka h a23 (.object RX9) fun n26 =>
  chk (inb (hI h x0 1) n26 = true) <|
  kn (hR h a23 (hI h x0 1 : Int32).toNatClampNeg) (
    nm (hN h) fun (a31 : Nat) =>
    nm (nw h (.inl 9) 8) fun (h30 : aH) =>
    bd (f_X9_init a31 h30) fun _ h33 =>
    ka h33 a23 (.object RX9) fun n36 =>
    chk (inb (hI h x0 1) n36 = true) <|
    ko h33 a31 9 <|
    f_X2_keep_28 x0 x1 (sR h33 a23 (hI h x0 1 : Int32).toNatClampNeg (some a31))
    ) fun a28 =>
  f_X2_keep_28 x0 x1 h
set_option maxRecDepth 100000 in
set_option maxHeartbeats 4000000 in
theorem t_X2_keep {Γ : gS} {d : Nat} (hd : 3 ≤ d) {x0 : Nat} {x1 : Nat} {h : aH} {r : Unit} {h' : aH} (H : f_X2_keep x0 x1 h = some (r, h')) : Mx Γ gX2_keep d [.ref x0, .ref x1] h none h' := by
  refine Mx.of (by decide +kernel) (Nat.le_of_ble_eq_true rfl) ?_
  unfold f_X2_keep at H
  show Ex Γ gX2_keep d 0 [(0, .ref x0), (1, .ref x1)] [] h none h'
  obtain ⟨d, rfl⟩ : ∃ e, d = e + 1 := ⟨d - 1, by omega⟩
  refine x_aload_n dX2_keep_0 rfl 0 rfl ?_
  obtain ⟨c22, H⟩ := ko_o H
  obtain ⟨a23, c24, H⟩ := kr_o H
  refine x_getR fr_X2_18 dX2_keep_1 c22 rfl c24 ?_
  refine x_aload_n dX2_keep_4 rfl 0 rfl ?_
  refine x_getI fr_X2_13 dX2_keep_5 c22 rfl ?_
  obtain ⟨n26, c25, H⟩ := ka_o H
  obtain ⟨c27, H⟩ := chk_o H
  rcases kn_o H with ⟨c29, H⟩ | ⟨a28, c29, H⟩
  · refine x_aaldN dX2_keep_8 c25 (by decide) (inb_in.mp c27) c29 ?_
    refine x_ifnonnullN dX2_keep_9 ?_
    refine x_aload_n dX2_keep_12 rfl 0 rfl ?_
    refine x_getR fr_X2_18 dX2_keep_13 c22 rfl c24 ?_
    refine x_aload_n dX2_keep_16 rfl 0 rfl ?_
    refine x_getI fr_X2_13 dX2_keep_17 c22 rfl ?_
    obtain ⟨a31, ea31, H⟩ := nm_o H
    obtain ⟨h30, eh30, H⟩ := nm_o H
    refine x_new (q := (RX9, TX9, 8)) dX2_keep_20 ck9 rfl cl_X2_16 is_X9 ii_X9 ?_
    rw [ea31]
    refine Ex.ren eh30 ?_
    refine x_dup dX2_keep_23 rfl ?_
    obtain ⟨v32, h33, hc34, H⟩ := bd_o H
    refine x_callIv (As := []) dX2_keep_24 mi_X9_init lk_X2_22 im_X9_init rfl rfl rfl (Nat.le_of_ble_eq_true rfl) (t_X9_init (by omega) hc34) ?_
    obtain ⟨n36, c35, H⟩ := ka_o H
    obtain ⟨c37, H⟩ := chk_o H
    obtain ⟨c38, H⟩ := ko_o H
    refine x_aast (q := (RX9, TX9, 8)) dX2_keep_27 rfl c35 (by decide) (inb_in.mp c37) c38 ?_
    exact t_X2_keep_28 hd H
  · refine x_aald dX2_keep_8 c25 (by decide) (inb_in.mp c27) c29 ?_
    refine x_ifnonnull (tgt := 28) dX2_keep_9 (by decide) ?_
    exact t_X2_keep_28 hd H
def f_X2_goBack_35 (h : aH) : Option (Int32 × aH) :=
  some (0, h)
set_option maxRecDepth 100000 in
set_option maxHeartbeats 4000000 in
theorem t_X2_goBack_35 {Γ : gS} {d : Nat} (hd : 2 ≤ d) {h : aH} {r : Int32} {h' : aH} (H : f_X2_goBack_35 h = some (r, h')) : Ex Γ gX2_goBack d 35 [] [] h (some (.int r)) h' := by
  unfold f_X2_goBack_35 at H
  obtain ⟨d, rfl⟩ : ∃ e, d = e + 1 := ⟨d - 1, by omega⟩
  refine x_iconst (v := 0) dX2_goBack_35 (by decide) ?_
  obtain ⟨rfl, rfl⟩ := so_1 H
  exact x_iret dX2_goBack_36 rfl (by decide)
def f_X2_goBack_18 (x0 : Nat) (x1 : Nat) (s0 : Int32) (h : aH) : Option (Int32 × aH) :=
  ko h x0 2 <|
  if (hI h x0 0) = 0 then
    f_X2_goBack_35 h
  else
    kr (hR h x0 2) fun a3 =>
    ka h a3 (.object RX9) fun n6 =>
    chk (inb s0 n6 = true) <|
    kn (hR h a3 s0.toNatClampNeg) (
      f_X2_goBack_35 h
      ) fun a8 =>
    kr (hR h a3 s0.toNatClampNeg) fun a10 =>
    ko h x1 9 <|
    bd (f_X9_become x1 a10 h) fun _ h13 =>
    ko h13 x0 2 <|
    nm (hI (sI h13 x0 1 s0) x0 0) fun (v16 : Int32) =>
    some (1, sI (sI h13 x0 1 s0) x0 0 (v16 - 1))
set_option maxRecDepth 100000 in
set_option maxHeartbeats 4000000 in
theorem t_X2_goBack_18 {Γ : gS} {d : Nat} (hd : 2 ≤ d) {x0 : Nat} {x1 : Nat} {s0 : Int32} {h : aH} {r : Int32} {h' : aH} (H : f_X2_goBack_18 x0 x1 s0 h = some (r, h')) : Ex Γ gX2_goBack d 18 [(0, .ref x0), (1, .ref x1)] [.int s0] h (some (.int r)) h' := by
  unfold f_X2_goBack_18 at H
  obtain ⟨d, rfl⟩ : ∃ e, d = e + 1 := ⟨d - 1, by omega⟩
  refine x_istore_n (lv' := [(2, .int s0), (0, .ref x0), (1, .ref x1)]) dX2_goBack_18 rfl (by decide) rfl rfl ?_
  refine x_aload_n dX2_goBack_19 rfl 1 rfl ?_
  obtain ⟨c1, H⟩ := ko_o H
  refine x_getI fr_X2_7 dX2_goBack_20 c1 rfl ?_
  refine x_if_eq (tgt := 35) dX2_goBack_23 (by decide) (fun c2 => ?_) (fun c2 => ?_)
  · replace H := ite_p H c2
    refine Ex.sub [] rfl ?_
    exact t_X2_goBack_35 hd H
  · replace H := ite_m H c2
    refine x_aload_n dX2_goBack_26 rfl 1 rfl ?_
    obtain ⟨a3, c4, H⟩ := kr_o H
    refine x_getR fr_X2_18 dX2_goBack_27 c1 rfl c4 ?_
    refine x_iload_n dX2_goBack_30 rfl 0 rfl ?_
    obtain ⟨n6, c5, H⟩ := ka_o H
    obtain ⟨c7, H⟩ := chk_o H
    rcases kn_o H with ⟨c9, H⟩ | ⟨a8, c9, H⟩
    · refine x_aaldN dX2_goBack_31 c5 (by decide) (inb_in.mp c7) c9 ?_
      refine x_ifnonnullN dX2_goBack_32 ?_
      refine Ex.sub [] rfl ?_
      exact t_X2_goBack_35 hd H
    · refine x_aald dX2_goBack_31 c5 (by decide) (inb_in.mp c7) c9 ?_
      refine x_ifnonnull (tgt := 37) dX2_goBack_32 (by decide) ?_
      refine x_aload_n dX2_goBack_37 rfl 2 rfl ?_
      refine x_aload_n dX2_goBack_38 rfl 1 rfl ?_
      refine x_getR fr_X2_18 dX2_goBack_39 c1 rfl c4 ?_
      refine x_iload_n dX2_goBack_42 rfl 0 rfl ?_
      obtain ⟨a10, c11, H⟩ := kr_o H
      refine x_aald dX2_goBack_43 c5 (by decide) (inb_in.mp c7) c11 ?_
      obtain ⟨c17, H⟩ := ko_o H
      obtain ⟨v12, h13, hc14, H⟩ := bd_o H
      refine x_callVv (As := [.ref a10]) (q := (RX9, TX9, 8)) dX2_goBack_44 mi_X9_become lk_X2_23 im_X9_become se_X9_become rfl c17 rfl rfl (Nat.le_of_ble_eq_true rfl) (t_X9_become (by omega) hc14) ?_
      refine x_aload_n dX2_goBack_47 rfl 1 rfl ?_
      refine x_iload_n dX2_goBack_48 rfl 0 rfl ?_
      obtain ⟨c15, H⟩ := ko_o H
      refine x_putI fl_X2_13 dX2_goBack_49 c15 (fun e => by cases e) rfl ?_
      refine x_aload_n dX2_goBack_52 rfl 1 rfl ?_
      refine x_dup dX2_goBack_53 rfl ?_
      obtain ⟨v16, ev16, H⟩ := nm_o H
      refine x_getIe fr_X2_7 dX2_goBack_54 c15 rfl ev16 ?_
      refine x_iconst (v := 1) dX2_goBack_57 (by decide) ?_
      refine x_isub dX2_goBack_58 ?_
      refine x_putI fl_X2_7 dX2_goBack_59 c15 (fun e => by cases e) rfl ?_
      refine x_iconst (v := 1) dX2_goBack_62 (by decide) ?_
      obtain ⟨rfl, rfl⟩ := so_1 H
      exact x_iret dX2_goBack_63 rfl (by decide)
def f_X2_goBack (x0 : Nat) (x1 : Nat) (h : aH) : Option (Int32 × aH) :=
  ko h x0 2 <|
  if (hI h x0 1) ≤ 0 then
    f_X2_goBack_18 x0 x1 19 h
  else
    f_X2_goBack_18 x0 x1 ((hI h x0 1) - 1) h
set_option maxRecDepth 100000 in
set_option maxHeartbeats 4000000 in
theorem t_X2_goBack {Γ : gS} {d : Nat} (hd : 2 ≤ d) {x0 : Nat} {x1 : Nat} {h : aH} {r : Int32} {h' : aH} (H : f_X2_goBack x0 x1 h = some (r, h')) : Mx Γ gX2_goBack d [.ref x0, .ref x1] h (some (.int r)) h' := by
  refine Mx.of (by decide +kernel) (Nat.le_of_ble_eq_true rfl) ?_
  unfold f_X2_goBack at H
  show Ex Γ gX2_goBack d 0 [(0, .ref x0), (1, .ref x1)] [] h (some (.int r)) h'
  obtain ⟨d, rfl⟩ : ∃ e, d = e + 1 := ⟨d - 1, by omega⟩
  refine x_aload_n dX2_goBack_0 rfl 0 rfl ?_
  obtain ⟨c18, H⟩ := ko_o H
  refine x_getI fr_X2_13 dX2_goBack_1 c18 rfl ?_
  refine x_if_le (tgt := 16) dX2_goBack_4 (by decide) (fun c19 => ?_) (fun c19 => ?_)
  · replace H := ite_p H c19
    refine x_bipush (v := 19) dX2_goBack_16 (by decide) ?_
    exact t_X2_goBack_18 hd H
  · replace H := ite_m H c19
    refine x_aload_n dX2_goBack_7 rfl 0 rfl ?_
    refine x_getI fr_X2_13 dX2_goBack_8 c18 rfl ?_
    refine x_iconst (v := 1) dX2_goBack_11 (by decide) ?_
    refine x_isub dX2_goBack_12 ?_
    refine x_goto (tgt := 18) dX2_goBack_13 (by decide) ?_
    exact t_X2_goBack_18 hd H
def f_X9_clear_25 (k2 : Nat → Int32 → aH → Option (Unit × aH)) (x0 : Nat) (x1 : Int32) (s0 : Nat) (s1 : Int32) (h : aH) : Option (Unit × aH) :=
  ko h s0 6 <|
  bd (f_X6_clear s0 s1 h) fun _ h2 =>
  nm (x1 + 1) fun (v4 : Int32) =>
  k2 x0 v4 h2
set_option maxRecDepth 100000 in
set_option maxHeartbeats 4000000 in
theorem t_X9_clear_25 {Γ : gS} {d : Nat} (hd : 1 ≤ d) {k2 : Nat → Int32 → aH → Option (Unit × aH)} (hk2 : ∀ {x0 : Nat} {x1 : Int32} {h : aH} {r : Unit} {h' : aH}, k2 x0 x1 h = some (r, h') → Ex Γ gX9_clear d 2 [(0, .ref x0), (1, .int x1)] [] h none h') {x0 : Nat} {x1 : Int32} {s0 : Nat} {s1 : Int32} {h : aH} {r : Unit} {h' : aH} (H : f_X9_clear_25 k2 x0 x1 s0 s1 h = some (r, h')) : Ex Γ gX9_clear d 25 [(0, .ref x0), (1, .int x1)] [.int s1, .ref s0] h none h' := by
  unfold f_X9_clear_25 at H
  obtain ⟨d, rfl⟩ : ∃ e, d = e + 1 := ⟨d - 1, by omega⟩
  obtain ⟨c5, H⟩ := ko_o H
  obtain ⟨v1, h2, hc3, H⟩ := bd_o H
  refine x_callVv (As := [.int s1]) (q := (RX6, TX6, 8)) dX9_clear_25 mi_X6_clear lk_X9_41 im_X6_clear se_X6_clear rfl c5 rfl rfl (Nat.le_of_ble_eq_true rfl) (t_X6_clear (by omega) hc3) ?_
  obtain ⟨v4, ev4, H⟩ := nm_o H
  refine x_iinc (v := v4) (lv' := [(1, .int v4), (0, .ref x0)]) dX9_clear_28 1 rfl (by decide) ev4 rfl ?_
  refine x_goto (tgt := 2) dX9_clear_31 (by decide) ?_
  refine Ex.sub [1, 0] rfl ?_
  exact hk2 H
def b_X9_clear_2 (k2 : Nat → Int32 → aH → Option (Unit × aH)) (x0 : Nat) (x1 : Int32) (h : aH) : Option (Unit × aH) :=
  if 32 ≤ x1 then
    ko h x0 9 <|
    kr (hR h x0 5) fun a8 =>
    bd (f_J7_fill_53178 a8 0 h) fun _ h11 =>
    ko h11 x0 9 <|
    some ((), sI (sI h11 x0 6 0) x0 7 0)
  else
    ko h x0 9 <|
    kr (hR h x0 0) fun a15 =>
    ka h a15 (.object RX6) fun n18 =>
    chk (inb x1 n18 = true) <|
    kr (hR h a15 x1.toNatClampNeg) fun a20 =>
    if 16 ≤ x1 then
      f_X9_clear_25 k2 x0 x1 a20 0 h
    else
      f_X9_clear_25 k2 x0 x1 a20 1 h
set_option maxRecDepth 100000 in
set_option maxHeartbeats 4000000 in
theorem tb_X9_clear_2 {Γ : gS} {d : Nat} (hd : 1 ≤ d) {k2 : Nat → Int32 → aH → Option (Unit × aH)} (hk2 : ∀ {x0 : Nat} {x1 : Int32} {h : aH} {r : Unit} {h' : aH}, k2 x0 x1 h = some (r, h') → Ex Γ gX9_clear d 2 [(0, .ref x0), (1, .int x1)] [] h none h') {x0 : Nat} {x1 : Int32} {h : aH} {r : Unit} {h' : aH} (H : b_X9_clear_2 k2 x0 x1 h = some (r, h')) : Ex Γ gX9_clear d 2 [(0, .ref x0), (1, .int x1)] [] h none h' := by
  unfold b_X9_clear_2 at H
  obtain ⟨d, rfl⟩ : ∃ e, d = e + 1 := ⟨d - 1, by omega⟩
  refine x_iload_n dX9_clear_2 rfl 1 rfl ?_
  refine x_bipush (v := 32) dX9_clear_3 (by decide) ?_
  refine x_icmp_ge (tgt := 34) dX9_clear_5 (by decide) (fun c6 => ?_) (fun c6 => ?_)
  · replace H := ite_p H c6
    refine x_aload_n dX9_clear_34 rfl 0 rfl ?_
    obtain ⟨c7, H⟩ := ko_o H
    obtain ⟨a8, c9, H⟩ := kr_o H
    refine x_getR fr_X9_30 dX9_clear_35 c7 rfl c9 ?_
    refine x_iconst (v := 0) dX9_clear_38 (by decide) ?_
    obtain ⟨v10, h11, hc12, H⟩ := bd_o H
    refine x_callSv (As := [.ref a8, .int 0]) dX9_clear_39 mi_J7_fill_53178 lk_X9_45 sm_J7_fill_53178 rfl rfl (Nat.le_of_ble_eq_true rfl) (t_J7_fill_53178 (by omega) hc12) ?_
    refine x_aload_n dX9_clear_42 rfl 0 rfl ?_
    refine x_iconst (v := 0) dX9_clear_43 (by decide) ?_
    obtain ⟨c13, H⟩ := ko_o H
    refine x_putI fl_X9_33 dX9_clear_44 c13 (fun e => by cases e) rfl ?_
    refine x_aload_n dX9_clear_47 rfl 0 rfl ?_
    refine x_iconst (v := 0) dX9_clear_48 (by decide) ?_
    refine x_putI fl_X9_37 dX9_clear_49 c13 (fun e => by cases e) rfl ?_
    obtain ⟨-, rfl⟩ := so_1 H
    exact x_vret dX9_clear_52 rfl
  · replace H := ite_m H c6
    refine x_aload_n dX9_clear_8 rfl 0 rfl ?_
    obtain ⟨c14, H⟩ := ko_o H
    obtain ⟨a15, c16, H⟩ := kr_o H
    refine x_getR fr_X9_13 dX9_clear_9 c14 rfl c16 ?_
    refine x_iload_n dX9_clear_12 rfl 1 rfl ?_
    obtain ⟨n18, c17, H⟩ := ka_o H
    obtain ⟨c19, H⟩ := chk_o H
    obtain ⟨a20, c21, H⟩ := kr_o H
    refine x_aald dX9_clear_13 c17 (by decide) (inb_in.mp c19) c21 ?_
    refine x_iload_n dX9_clear_14 rfl 1 rfl ?_
    refine x_bipush (v := 16) dX9_clear_15 (by decide) ?_
    refine x_icmp_ge (tgt := 24) dX9_clear_17 (by decide) (fun c22 => ?_) (fun c22 => ?_)
    · replace H := ite_p H c22
      refine x_iconst (v := 0) dX9_clear_24 (by decide) ?_
      exact t_X9_clear_25 hd hk2 H
    · replace H := ite_m H c22
      refine x_iconst (v := 1) dX9_clear_20 (by decide) ?_
      refine x_goto (tgt := 25) dX9_clear_21 (by decide) ?_
      exact t_X9_clear_25 hd hk2 H
def f_X9_clear_2 : Nat → Nat → Int32 → aH → Option (Unit × aH)
  | 0 => fun _ _ _ => none
  | n + 1 => b_X9_clear_2 (f_X9_clear_2 n)
set_option maxRecDepth 100000 in
set_option maxHeartbeats 4000000 in
theorem t_X9_clear_2 {Γ : gS} {d : Nat} (hd : 1 ≤ d) (n : Nat) : ∀ {x0 : Nat} {x1 : Int32} {h : aH} {r : Unit} {h' : aH}, f_X9_clear_2 n x0 x1 h = some (r, h') → Ex Γ gX9_clear d 2 [(0, .ref x0), (1, .int x1)] [] h none h' := by
  induction n with
  | zero => intro x0 x1 h r h' H; cases H
  | succ n ih => intro x0 x1 h r h' H; exact tb_X9_clear_2 hd ih H
def f_X9_clear (x0 : Nat) (h : aH) : Option (Unit × aH) :=
  f_X9_clear_2 FU x0 0 h
set_option maxRecDepth 100000 in
set_option maxHeartbeats 4000000 in
theorem t_X9_clear {Γ : gS} {d : Nat} (hd : 1 ≤ d) {x0 : Nat} {h : aH} {r : Unit} {h' : aH} (H : f_X9_clear x0 h = some (r, h')) : Mx Γ gX9_clear d [.ref x0] h none h' := by
  refine Mx.of (by decide +kernel) (Nat.le_of_ble_eq_true rfl) ?_
  unfold f_X9_clear at H
  show Ex Γ gX9_clear d 0 [(0, .ref x0)] [] h none h'
  obtain ⟨d, rfl⟩ : ∃ e, d = e + 1 := ⟨d - 1, by omega⟩
  refine x_iconst (v := 0) dX9_clear_0 (by decide) ?_
  refine x_istore_n (lv' := [(1, .int 0), (0, .ref x0)]) dX9_clear_1 rfl (by decide) rfl rfl ?_
  refine Ex.sub [1, 0] rfl ?_
  exact t_X9_clear_2 hd FU H
def f_X9_countValid_25 (k4 : Nat → Int32 → Int32 → aH → Option (Int32 × aH)) (x0 : Nat) (x1 : Int32) (x2 : Int32) (h : aH) : Option (Int32 × aH) :=
  nm (x2 + 1) fun (v1 : Int32) =>
  k4 x0 x1 v1 h
set_option maxRecDepth 100000 in
set_option maxHeartbeats 4000000 in
theorem t_X9_countValid_25 {Γ : gS} {d : Nat} (hd : 0 ≤ d) {k4 : Nat → Int32 → Int32 → aH → Option (Int32 × aH)} (hk4 : ∀ {x0 : Nat} {x1 : Int32} {x2 : Int32} {h : aH} {r : Int32} {h' : aH}, k4 x0 x1 x2 h = some (r, h') → Ex Γ gX9_countValid d 4 [(0, .ref x0), (1, .int x1), (2, .int x2)] [] h (some (.int r)) h') {x0 : Nat} {x1 : Int32} {x2 : Int32} {h : aH} {r : Int32} {h' : aH} (H : f_X9_countValid_25 k4 x0 x1 x2 h = some (r, h')) : Ex Γ gX9_countValid d 25 [(0, .ref x0), (1, .int x1), (2, .int x2)] [] h (some (.int r)) h' := by
  unfold f_X9_countValid_25 at H
  obtain ⟨v1, ev1, H⟩ := nm_o H
  refine x_iinc (v := v1) (lv' := [(2, .int v1), (0, .ref x0), (1, .int x1)]) dX9_countValid_25 2 rfl (by decide) ev1 rfl ?_
  refine x_goto (tgt := 4) dX9_countValid_28 (by decide) ?_
  refine Ex.sub [1, 2, 0] rfl ?_
  exact hk4 H
def b_X9_countValid_4 (k4 : Nat → Int32 → Int32 → aH → Option (Int32 × aH)) (x0 : Nat) (x1 : Int32) (x2 : Int32) (h : aH) : Option (Int32 × aH) :=
  if 16 ≤ x2 then
    some (x1, h)
  else
    ko h x0 9 <|
    kr (hR h x0 0) fun a4 =>
    ka h a4 (.object RX6) fun n7 =>
    chk (inb x2 n7 = true) <|
    kr (hR h a4 x2.toNatClampNeg) fun a9 =>
    ko h a9 6 <|
    if (hI h a9 1) = 0 then
      f_X9_countValid_25 k4 x0 x1 x2 h
    else
      nm (x1 + 1) fun (v13 : Int32) =>
      f_X9_countValid_25 k4 x0 v13 x2 h
set_option maxRecDepth 100000 in
set_option maxHeartbeats 4000000 in
theorem tb_X9_countValid_4 {Γ : gS} {d : Nat} (hd : 0 ≤ d) {k4 : Nat → Int32 → Int32 → aH → Option (Int32 × aH)} (hk4 : ∀ {x0 : Nat} {x1 : Int32} {x2 : Int32} {h : aH} {r : Int32} {h' : aH}, k4 x0 x1 x2 h = some (r, h') → Ex Γ gX9_countValid d 4 [(0, .ref x0), (1, .int x1), (2, .int x2)] [] h (some (.int r)) h') {x0 : Nat} {x1 : Int32} {x2 : Int32} {h : aH} {r : Int32} {h' : aH} (H : b_X9_countValid_4 k4 x0 x1 x2 h = some (r, h')) : Ex Γ gX9_countValid d 4 [(0, .ref x0), (1, .int x1), (2, .int x2)] [] h (some (.int r)) h' := by
  unfold b_X9_countValid_4 at H
  refine x_iload_n dX9_countValid_4 rfl 2 rfl ?_
  refine x_bipush (v := 16) dX9_countValid_5 (by decide) ?_
  refine x_icmp_ge (tgt := 31) dX9_countValid_7 (by decide) (fun c2 => ?_) (fun c2 => ?_)
  · replace H := ite_p H c2
    refine x_iload_n dX9_countValid_31 rfl 1 rfl ?_
    obtain ⟨rfl, rfl⟩ := so_1 H
    exact x_iret dX9_countValid_32 rfl rfl
  · replace H := ite_m H c2
    refine x_aload_n dX9_countValid_10 rfl 0 rfl ?_
    obtain ⟨c3, H⟩ := ko_o H
    obtain ⟨a4, c5, H⟩ := kr_o H
    refine x_getR fr_X9_13 dX9_countValid_11 c3 rfl c5 ?_
    refine x_iload_n dX9_countValid_14 rfl 2 rfl ?_
    obtain ⟨n7, c6, H⟩ := ka_o H
    obtain ⟨c8, H⟩ := chk_o H
    obtain ⟨a9, c10, H⟩ := kr_o H
    refine x_aald dX9_countValid_15 c6 (by decide) (inb_in.mp c8) c10 ?_
    obtain ⟨c11, H⟩ := ko_o H
    refine x_getI fr_X9_61 dX9_countValid_16 c11 rfl ?_
    refine x_if_eq (tgt := 25) dX9_countValid_19 (by decide) (fun c12 => ?_) (fun c12 => ?_)
    · replace H := ite_p H c12
      exact t_X9_countValid_25 hd hk4 H
    · replace H := ite_m H c12
      obtain ⟨v13, ev13, H⟩ := nm_o H
      refine x_iinc (v := v13) (lv' := [(1, .int v13), (0, .ref x0), (2, .int x2)]) dX9_countValid_22 1 rfl (by decide) ev13 rfl ?_
      refine Ex.sub [1, 0, 2] rfl ?_
      exact t_X9_countValid_25 hd hk4 H
def f_X9_countValid_4 : Nat → Nat → Int32 → Int32 → aH → Option (Int32 × aH)
  | 0 => fun _ _ _ _ => none
  | n + 1 => b_X9_countValid_4 (f_X9_countValid_4 n)
set_option maxRecDepth 100000 in
set_option maxHeartbeats 4000000 in
theorem t_X9_countValid_4 {Γ : gS} {d : Nat} (hd : 0 ≤ d) (n : Nat) : ∀ {x0 : Nat} {x1 : Int32} {x2 : Int32} {h : aH} {r : Int32} {h' : aH}, f_X9_countValid_4 n x0 x1 x2 h = some (r, h') → Ex Γ gX9_countValid d 4 [(0, .ref x0), (1, .int x1), (2, .int x2)] [] h (some (.int r)) h' := by
  induction n with
  | zero => intro x0 x1 x2 h r h' H; cases H
  | succ n ih => intro x0 x1 x2 h r h' H; exact tb_X9_countValid_4 hd ih H
def f_X9_countValid (x0 : Nat) (h : aH) : Option (Int32 × aH) :=
  f_X9_countValid_4 FU x0 0 0 h
set_option maxRecDepth 100000 in
set_option maxHeartbeats 4000000 in
theorem t_X9_countValid {Γ : gS} {d : Nat} (hd : 0 ≤ d) {x0 : Nat} {h : aH} {r : Int32} {h' : aH} (H : f_X9_countValid x0 h = some (r, h')) : Mx Γ gX9_countValid d [.ref x0] h (some (.int r)) h' := by
  refine Mx.of (by decide +kernel) (Nat.le_of_ble_eq_true rfl) ?_
  unfold f_X9_countValid at H
  show Ex Γ gX9_countValid d 0 [(0, .ref x0)] [] h (some (.int r)) h'
  refine x_iconst (v := 0) dX9_countValid_0 (by decide) ?_
  refine x_istore_n (lv' := [(1, .int 0), (0, .ref x0)]) dX9_countValid_1 rfl (by decide) rfl rfl ?_
  refine x_iconst (v := 0) dX9_countValid_2 (by decide) ?_
  refine x_istore_n (lv' := [(2, .int 0), (1, .int 0), (0, .ref x0)]) dX9_countValid_3 rfl (by decide) rfl rfl ?_
  refine Ex.sub [2, 1, 0] rfl ?_
  exact t_X9_countValid_4 hd FU H
def f_X9_byteAt_11 (h : aH) : Option (Int32 × aH) :=
  some ((-1), h)
set_option maxRecDepth 100000 in
set_option maxHeartbeats 4000000 in
theorem t_X9_byteAt_11 {Γ : gS} {d : Nat} (hd : 0 ≤ d) {h : aH} {r : Int32} {h' : aH} (H : f_X9_byteAt_11 h = some (r, h')) : Ex Γ gX9_byteAt d 11 [] [] h (some (.int r)) h' := by
  unfold f_X9_byteAt_11 at H
  refine x_iconst (v := (-1)) dX9_byteAt_11 (by decide) ?_
  obtain ⟨rfl, rfl⟩ := so_1 H
  exact x_iret dX9_byteAt_12 rfl rfl
def f_X9_byteAt (x0 : Nat) (x1 : Int32) (h : aH) : Option (Int32 × aH) :=
  if x1 < 0 then
    f_X9_byteAt_11 h
  else
    if x1 < 1024 then
      ko h x0 9 <|
      kr (hR h x0 5) fun a4 =>
      ka h a4 .int fun n7 =>
      chk (inb (x1 >>> (2 &&& 31)) n7 = true) <|
      some (((hI h a4 (x1 >>> (2 &&& 31) : Int32).toNatClampNeg) >>> ((8 * (x1 &&& 3)) &&& 31)) &&& 255, h)
    else
      f_X9_byteAt_11 h
set_option maxRecDepth 100000 in
set_option maxHeartbeats 4000000 in
theorem t_X9_byteAt {Γ : gS} {d : Nat} (hd : 0 ≤ d) {x0 : Nat} {x1 : Int32} {h : aH} {r : Int32} {h' : aH} (H : f_X9_byteAt x0 x1 h = some (r, h')) : Mx Γ gX9_byteAt d [.ref x0, .int x1] h (some (.int r)) h' := by
  refine Mx.of (by decide +kernel) (Nat.le_of_ble_eq_true rfl) ?_
  unfold f_X9_byteAt at H
  show Ex Γ gX9_byteAt d 0 [(0, .ref x0), (1, .int x1)] [] h (some (.int r)) h'
  refine x_iload_n dX9_byteAt_0 rfl 1 rfl ?_
  refine x_if_lt (tgt := 11) dX9_byteAt_1 (by decide) (fun c1 => ?_) (fun c1 => ?_)
  · replace H := ite_p H c1
    refine Ex.sub [] rfl ?_
    exact t_X9_byteAt_11 hd H
  · replace H := ite_m H c1
    refine x_iload_n dX9_byteAt_4 rfl 1 rfl ?_
    refine x_sipush (v := 1024) dX9_byteAt_5 (by decide) ?_
    refine x_icmp_lt (tgt := 13) dX9_byteAt_8 (by decide) (fun c2 => ?_) (fun c2 => ?_)
    · replace H := ite_p H c2
      refine x_aload_n dX9_byteAt_13 rfl 0 rfl ?_
      obtain ⟨c3, H⟩ := ko_o H
      obtain ⟨a4, c5, H⟩ := kr_o H
      refine x_getR fr_X9_30 dX9_byteAt_14 c3 rfl c5 ?_
      refine x_iload_n dX9_byteAt_17 rfl 1 rfl ?_
      refine x_iconst (v := 2) dX9_byteAt_18 (by decide) ?_
      refine x_ishr dX9_byteAt_19 ?_
      obtain ⟨n7, c6, H⟩ := ka_o H
      obtain ⟨c8, H⟩ := chk_o H
      refine x_iald dX9_byteAt_20 c6 (inb_in.mp c8) ?_
      refine x_bipush (v := 8) dX9_byteAt_21 (by decide) ?_
      refine x_iload_n dX9_byteAt_23 rfl 1 rfl ?_
      refine x_iconst (v := 3) dX9_byteAt_24 (by decide) ?_
      refine x_iand dX9_byteAt_25 ?_
      refine x_imul dX9_byteAt_26 ?_
      refine x_ishr dX9_byteAt_27 ?_
      refine x_sipush (v := 255) dX9_byteAt_28 (by decide) ?_
      refine x_iand dX9_byteAt_31 ?_
      obtain ⟨rfl, rfl⟩ := so_1 H
      exact x_iret dX9_byteAt_32 rfl rfl
    · replace H := ite_m H c2
      refine Ex.sub [] rfl ?_
      exact t_X9_byteAt_11 hd H
def f_X9_setByte_11 (h : aH) : Option (Unit × aH) :=
  some ((), h)
set_option maxRecDepth 100000 in
set_option maxHeartbeats 4000000 in
theorem t_X9_setByte_11 {Γ : gS} {d : Nat} (hd : 0 ≤ d) {h : aH} {r : Unit} {h' : aH} (H : f_X9_setByte_11 h = some (r, h')) : Ex Γ gX9_setByte d 11 [] [] h none h' := by
  unfold f_X9_setByte_11 at H
  obtain ⟨-, rfl⟩ := so_1 H
  exact x_vret dX9_setByte_11 rfl
def f_X9_setByte (x0 : Nat) (x1 : Int32) (x2 : Int32) (h : aH) : Option (Unit × aH) :=
  if x1 < 0 then
    f_X9_setByte_11 h
  else
    if x1 < 1024 then
      nm (8 * (x1 &&& 3)) fun (v3 : Int32) =>
      ko h x0 9 <|
      kr (hR h x0 5) fun a5 =>
      ka h a5 .int fun n8 =>
      chk (inb (x1 >>> (2 &&& 31)) n8 = true) <|
      nm ((hI h a5 (x1 >>> (2 &&& 31) : Int32).toNatClampNeg) &&& ((255 <<< (v3 &&& 31)) ^^^ (-1))) fun (v10 : Int32) =>
      some ((), sI h a5 (x1 >>> (2 &&& 31) : Int32).toNatClampNeg (v10 ||| ((x2 &&& 255) <<< (v3 &&& 31))))
    else
      f_X9_setByte_11 h
set_option maxRecDepth 100000 in
set_option maxHeartbeats 4000000 in
theorem t_X9_setByte {Γ : gS} {d : Nat} (hd : 0 ≤ d) {x0 : Nat} {x1 : Int32} {x2 : Int32} {h : aH} {r : Unit} {h' : aH} (H : f_X9_setByte x0 x1 x2 h = some (r, h')) : Mx Γ gX9_setByte d [.ref x0, .int x1, .int x2] h none h' := by
  refine Mx.of (by decide +kernel) (Nat.le_of_ble_eq_true rfl) ?_
  unfold f_X9_setByte at H
  show Ex Γ gX9_setByte d 0 [(0, .ref x0), (1, .int x1), (2, .int x2)] [] h none h'
  refine x_iload_n dX9_setByte_0 rfl 1 rfl ?_
  refine x_if_lt (tgt := 11) dX9_setByte_1 (by decide) (fun c1 => ?_) (fun c1 => ?_)
  · replace H := ite_p H c1
    refine Ex.sub [] rfl ?_
    exact t_X9_setByte_11 hd H
  · replace H := ite_m H c1
    refine x_iload_n dX9_setByte_4 rfl 1 rfl ?_
    refine x_sipush (v := 1024) dX9_setByte_5 (by decide) ?_
    refine x_icmp_lt (tgt := 12) dX9_setByte_8 (by decide) (fun c2 => ?_) (fun c2 => ?_)
    · replace H := ite_p H c2
      refine x_bipush (v := 8) dX9_setByte_12 (by decide) ?_
      refine x_iload_n dX9_setByte_14 rfl 1 rfl ?_
      refine x_iconst (v := 3) dX9_setByte_15 (by decide) ?_
      refine x_iand dX9_setByte_16 ?_
      refine x_imul dX9_setByte_17 ?_
      obtain ⟨v3, ev3, H⟩ := nm_o H
      refine x_istore_n (lv' := [(3, .int v3), (0, .ref x0), (1, .int x1), (2, .int x2)]) dX9_setByte_18 rfl (by decide) ev3 rfl ?_
      refine x_aload_n dX9_setByte_19 rfl 1 rfl ?_
      obtain ⟨c4, H⟩ := ko_o H
      obtain ⟨a5, c6, H⟩ := kr_o H
      refine x_getR fr_X9_30 dX9_setByte_20 c4 rfl c6 ?_
      refine x_iload_n dX9_setByte_23 rfl 2 rfl ?_
      refine x_iconst (v := 2) dX9_setByte_24 (by decide) ?_
      refine x_ishr dX9_setByte_25 ?_
      obtain ⟨n8, c7, H⟩ := ka_o H
      obtain ⟨c9, H⟩ := chk_o H
      refine x_iald dX9_setByte_26 c7 (inb_in.mp c9) ?_
      refine x_sipush (v := 255) dX9_setByte_27 (by decide) ?_
      refine x_iload_n dX9_setByte_30 rfl 0 rfl ?_
      refine x_ishl dX9_setByte_31 ?_
      refine x_iconst (v := (-1)) dX9_setByte_32 (by decide) ?_
      refine x_ixor dX9_setByte_33 ?_
      refine x_iand dX9_setByte_34 ?_
      obtain ⟨v10, ev10, H⟩ := nm_o H
      refine x_istore (lv' := [(4, .int v10), (3, .int v3), (0, .ref x0), (1, .int x1), (2, .int x2)]) dX9_setByte_35 (by decide) ev10 rfl ?_
      refine x_aload_n dX9_setByte_37 rfl 2 rfl ?_
      refine x_getR fr_X9_30 dX9_setByte_38 c4 rfl c6 ?_
      refine x_iload_n dX9_setByte_41 rfl 3 rfl ?_
      refine x_iconst (v := 2) dX9_setByte_42 (by decide) ?_
      refine x_ishr dX9_setByte_43 ?_
      refine x_iload dX9_setByte_44 0 rfl ?_
      refine x_iload_n dX9_setByte_46 rfl 4 rfl ?_
      refine x_sipush (v := 255) dX9_setByte_47 (by decide) ?_
      refine x_iand dX9_setByte_50 ?_
      refine x_iload_n dX9_setByte_51 rfl 1 rfl ?_
      refine x_ishl dX9_setByte_52 ?_
      refine x_ior dX9_setByte_53 ?_
      refine x_iast dX9_setByte_54 c7 (inb_in.mp c9) ?_
      obtain ⟨-, rfl⟩ := so_1 H
      exact x_vret dX9_setByte_55 rfl
    · replace H := ite_m H c2
      refine Ex.sub [] rfl ?_
      exact t_X9_setByte_11 hd H
def f_X9_note_30 (x0 : Nat) (x1 : Int32) (x2 : Int32) (x3 : Int32) (h : aH) : Option (Unit × aH) :=
  ko h x0 9 <|
  kr (hR h x0 4) fun a2 =>
  ka h a2 .int fun n5 =>
  chk (inb ((hI h x0 7) * 3) n5 = true) <|
  nm (hI (sI h a2 ((hI h x0 7) * 3 : Int32).toNatClampNeg x1) x0 7) fun (v7 : Int32) =>
  chk (inb ((v7 * 3) + 1) n5 = true) <|
  nm (hI (sI (sI h a2 ((hI h x0 7) * 3 : Int32).toNatClampNeg x1) a2 ((v7 * 3) + 1 : Int32).toNatClampNeg x2) x0 7) fun (v9 : Int32) =>
  chk (inb ((v9 * 3) + 2) n5 = true) <|
  nm (hI (sI (sI (sI h a2 ((hI h x0 7) * 3 : Int32).toNatClampNeg x1) a2 ((v7 * 3) + 1 : Int32).toNatClampNeg x2) a2 ((v9 * 3) + 2 : Int32).toNatClampNeg x3) x0 7) fun (v11 : Int32) =>
  some ((), sI (sI (sI (sI h a2 ((hI h x0 7) * 3 : Int32).toNatClampNeg x1) a2 ((v7 * 3) + 1 : Int32).toNatClampNeg x2) a2 ((v9 * 3) + 2 : Int32).toNatClampNeg x3) x0 7 (v11 + 1))
set_option maxRecDepth 100000 in
set_option maxHeartbeats 4000000 in
theorem t_X9_note_30 {Γ : gS} {d : Nat} (hd : 1 ≤ d) {x0 : Nat} {x1 : Int32} {x2 : Int32} {x3 : Int32} {h : aH} {r : Unit} {h' : aH} (H : f_X9_note_30 x0 x1 x2 x3 h = some (r, h')) : Ex Γ gX9_note d 30 [(0, .ref x0), (1, .int x1), (2, .int x2), (3, .int x3)] [] h none h' := by
  unfold f_X9_note_30 at H
  obtain ⟨d, rfl⟩ : ∃ e, d = e + 1 := ⟨d - 1, by omega⟩
  refine x_aload_n dX9_note_30 rfl 0 rfl ?_
  obtain ⟨c1, H⟩ := ko_o H
  obtain ⟨a2, c3, H⟩ := kr_o H
  refine x_getR fr_X9_27 dX9_note_31 c1 rfl c3 ?_
  refine x_aload_n dX9_note_34 rfl 0 rfl ?_
  refine x_getI fr_X9_37 dX9_note_35 c1 rfl ?_
  refine x_iconst (v := 3) dX9_note_38 (by decide) ?_
  refine x_imul dX9_note_39 ?_
  refine x_iload_n dX9_note_40 rfl 1 rfl ?_
  obtain ⟨n5, c4, H⟩ := ka_o H
  obtain ⟨c6, H⟩ := chk_o H
  refine x_iast dX9_note_41 c4 (inb_in.mp c6) ?_
  refine x_aload_n dX9_note_42 rfl 0 rfl ?_
  refine x_getR fr_X9_27 dX9_note_43 c1 rfl c3 ?_
  refine x_aload_n dX9_note_46 rfl 0 rfl ?_
  obtain ⟨v7, ev7, H⟩ := nm_o H
  refine x_getIe fr_X9_37 dX9_note_47 c1 rfl ev7 ?_
  refine x_iconst (v := 3) dX9_note_50 (by decide) ?_
  refine x_imul dX9_note_51 ?_
  refine x_iconst (v := 1) dX9_note_52 (by decide) ?_
  refine x_iadd dX9_note_53 ?_
  refine x_iload_n dX9_note_54 rfl 2 rfl ?_
  obtain ⟨c8, H⟩ := chk_o H
  refine x_iast dX9_note_55 c4 (inb_in.mp c8) ?_
  refine x_aload_n dX9_note_56 rfl 0 rfl ?_
  refine x_getR fr_X9_27 dX9_note_57 c1 rfl c3 ?_
  refine x_aload_n dX9_note_60 rfl 0 rfl ?_
  obtain ⟨v9, ev9, H⟩ := nm_o H
  refine x_getIe fr_X9_37 dX9_note_61 c1 rfl ev9 ?_
  refine x_iconst (v := 3) dX9_note_64 (by decide) ?_
  refine x_imul dX9_note_65 ?_
  refine x_iconst (v := 2) dX9_note_66 (by decide) ?_
  refine x_iadd dX9_note_67 ?_
  refine x_iload_n dX9_note_68 rfl 3 rfl ?_
  obtain ⟨c10, H⟩ := chk_o H
  refine x_iast dX9_note_69 c4 (inb_in.mp c10) ?_
  refine x_aload_n dX9_note_70 rfl 0 rfl ?_
  refine x_dup dX9_note_71 rfl ?_
  obtain ⟨v11, ev11, H⟩ := nm_o H
  refine x_getIe fr_X9_37 dX9_note_72 c1 rfl ev11 ?_
  refine x_iconst (v := 1) dX9_note_75 (by decide) ?_
  refine x_iadd dX9_note_76 ?_
  refine x_putI fl_X9_37 dX9_note_77 c1 (fun e => by cases e) rfl ?_
  obtain ⟨-, rfl⟩ := so_1 H
  exact x_vret dX9_note_80 rfl
def f_X9_note (x0 : Nat) (x1 : Int32) (x2 : Int32) (x3 : Int32) (h : aH) : Option (Unit × aH) :=
  ko h x0 9 <|
  if (hI h x0 7) < 40 then
    f_X9_note_30 x0 x1 x2 x3 h
  else
    kr (hR h x0 4) fun a14 =>
    ka h a14 .int fun n17 =>
    chk (¬ (3 : Int32) < 0 ∧ ¬ (0 : Int32) < 0 ∧ ¬ (117 : Int32) < 0 ∧ (3 : Int32).toNatClampNeg + (117 : Int32).toNatClampNeg ≤ n17 ∧ (0 : Int32).toNatClampNeg + (117 : Int32).toNatClampNeg ≤ n17) <|
    nm (acp h a14 (3 : Int32).toNatClampNeg a14 (0 : Int32).toNatClampNeg (117 : Int32).toNatClampNeg) fun (h19 : aH) =>
    ko h19 x0 9 <|
    f_X9_note_30 x0 x1 x2 x3 (sI h19 x0 7 39)
set_option maxRecDepth 100000 in
set_option maxHeartbeats 4000000 in
theorem t_X9_note {Γ : gS} {d : Nat} (hd : 1 ≤ d) {x0 : Nat} {x1 : Int32} {x2 : Int32} {x3 : Int32} {h : aH} {r : Unit} {h' : aH} (H : f_X9_note x0 x1 x2 x3 h = some (r, h')) : Mx Γ gX9_note d [.ref x0, .int x1, .int x2, .int x3] h none h' := by
  refine Mx.of (by decide +kernel) (Nat.le_of_ble_eq_true rfl) ?_
  unfold f_X9_note at H
  show Ex Γ gX9_note d 0 [(0, .ref x0), (1, .int x1), (2, .int x2), (3, .int x3)] [] h none h'
  obtain ⟨d, rfl⟩ : ∃ e, d = e + 1 := ⟨d - 1, by omega⟩
  refine x_aload_n dX9_note_0 rfl 0 rfl ?_
  obtain ⟨c12, H⟩ := ko_o H
  refine x_getI fr_X9_37 dX9_note_1 c12 rfl ?_
  refine x_bipush (v := 40) dX9_note_4 (by decide) ?_
  refine x_icmp_lt (tgt := 30) dX9_note_6 (by decide) (fun c13 => ?_) (fun c13 => ?_)
  · replace H := ite_p H c13
    exact t_X9_note_30 hd H
  · replace H := ite_m H c13
    refine x_aload_n dX9_note_9 rfl 0 rfl ?_
    obtain ⟨a14, c15, H⟩ := kr_o H
    refine x_getR fr_X9_27 dX9_note_10 c12 rfl c15 ?_
    refine x_iconst (v := 3) dX9_note_13 (by decide) ?_
    refine x_aload_n dX9_note_14 rfl 0 rfl ?_
    refine x_getR fr_X9_27 dX9_note_15 c12 rfl c15 ?_
    refine x_iconst (v := 0) dX9_note_18 (by decide) ?_
    refine x_bipush (v := 117) dX9_note_19 (by decide) ?_
    obtain ⟨n17, c16, H⟩ := ka_o H
    obtain ⟨⟨c181, c182, c183, c184, c185⟩, H⟩ := chk_o H
    obtain ⟨h19, eh19, H⟩ := nm_o H
    refine x_acopy dX9_note_21 lk_X9_55 na_acp sm_acp ii_J10 c16 c16 c181 c182 c183 c184 c185 (Nat.le_of_ble_eq_true rfl) ?_
    refine Ex.ren eh19 ?_
    refine x_aload_n dX9_note_24 rfl 0 rfl ?_
    refine x_bipush (v := 39) dX9_note_25 (by decide) ?_
    obtain ⟨c20, H⟩ := ko_o H
    refine x_putI fl_X9_37 dX9_note_27 c20 (fun e => by cases e) rfl ?_
    exact t_X9_note_30 hd H
def b_X9_bytesInObjects_4 (k4 : Nat → Int32 → Int32 → aH → Option (Int32 × aH)) (x0 : Nat) (x1 : Int32) (x2 : Int32) (h : aH) : Option (Int32 × aH) :=
  ko h x0 9 <|
  if (hI h x0 6) ≤ x2 then
    some (x1, h)
  else
    kr (hR h x0 2) fun a3 =>
    ka h a3 .int fun n6 =>
    chk (inb x2 n6 = true) <|
    nm (x1 + (hI h a3 x2.toNatClampNeg)) fun (v8 : Int32) =>
    nm (x2 + 1) fun (v9 : Int32) =>
    k4 x0 v8 v9 h
set_option maxRecDepth 100000 in
set_option maxHeartbeats 4000000 in
theorem tb_X9_bytesInObjects_4 {Γ : gS} {d : Nat} (hd : 0 ≤ d) {k4 : Nat → Int32 → Int32 → aH → Option (Int32 × aH)} (hk4 : ∀ {x0 : Nat} {x1 : Int32} {x2 : Int32} {h : aH} {r : Int32} {h' : aH}, k4 x0 x1 x2 h = some (r, h') → Ex Γ gX9_bytesInObjects d 4 [(0, .ref x0), (1, .int x1), (2, .int x2)] [] h (some (.int r)) h') {x0 : Nat} {x1 : Int32} {x2 : Int32} {h : aH} {r : Int32} {h' : aH} (H : b_X9_bytesInObjects_4 k4 x0 x1 x2 h = some (r, h')) : Ex Γ gX9_bytesInObjects d 4 [(0, .ref x0), (1, .int x1), (2, .int x2)] [] h (some (.int r)) h' := by
  unfold b_X9_bytesInObjects_4 at H
  refine x_iload_n dX9_bytesInObjects_4 rfl 2 rfl ?_
  refine x_aload_n dX9_bytesInObjects_5 rfl 0 rfl ?_
  obtain ⟨c1, H⟩ := ko_o H
  refine x_getI fr_X9_33 dX9_bytesInObjects_6 c1 rfl ?_
  refine x_icmp_ge (tgt := 27) dX9_bytesInObjects_9 (by decide) (fun c2 => ?_) (fun c2 => ?_)
  · replace H := ite_p H c2
    refine x_iload_n dX9_bytesInObjects_27 rfl 1 rfl ?_
    obtain ⟨rfl, rfl⟩ := so_1 H
    exact x_iret dX9_bytesInObjects_28 rfl rfl
  · replace H := ite_m H c2
    refine x_iload_n dX9_bytesInObjects_12 rfl 1 rfl ?_
    refine x_aload_n dX9_bytesInObjects_13 rfl 0 rfl ?_
    obtain ⟨a3, c4, H⟩ := kr_o H
    refine x_getR fr_X9_21 dX9_bytesInObjects_14 c1 rfl c4 ?_
    refine x_iload_n dX9_bytesInObjects_17 rfl 2 rfl ?_
    obtain ⟨n6, c5, H⟩ := ka_o H
    obtain ⟨c7, H⟩ := chk_o H
    refine x_iald dX9_bytesInObjects_18 c5 (inb_in.mp c7) ?_
    refine x_iadd dX9_bytesInObjects_19 ?_
    obtain ⟨v8, ev8, H⟩ := nm_o H
    refine x_istore_n (lv' := [(1, .int v8), (0, .ref x0), (2, .int x2)]) dX9_bytesInObjects_20 rfl (by decide) ev8 rfl ?_
    obtain ⟨v9, ev9, H⟩ := nm_o H
    refine x_iinc (v := v9) (lv' := [(2, .int v9), (1, .int v8), (0, .ref x0)]) dX9_bytesInObjects_21 2 rfl (by decide) ev9 rfl ?_
    refine x_goto (tgt := 4) dX9_bytesInObjects_24 (by decide) ?_
    refine Ex.sub [2, 1, 0] rfl ?_
    exact hk4 H
def f_X9_bytesInObjects_4 : Nat → Nat → Int32 → Int32 → aH → Option (Int32 × aH)
  | 0 => fun _ _ _ _ => none
  | n + 1 => b_X9_bytesInObjects_4 (f_X9_bytesInObjects_4 n)
set_option maxRecDepth 100000 in
set_option maxHeartbeats 4000000 in
theorem t_X9_bytesInObjects_4 {Γ : gS} {d : Nat} (hd : 0 ≤ d) (n : Nat) : ∀ {x0 : Nat} {x1 : Int32} {x2 : Int32} {h : aH} {r : Int32} {h' : aH}, f_X9_bytesInObjects_4 n x0 x1 x2 h = some (r, h') → Ex Γ gX9_bytesInObjects d 4 [(0, .ref x0), (1, .int x1), (2, .int x2)] [] h (some (.int r)) h' := by
  induction n with
  | zero => intro x0 x1 x2 h r h' H; cases H
  | succ n ih => intro x0 x1 x2 h r h' H; exact tb_X9_bytesInObjects_4 hd ih H
def f_X9_bytesInObjects (x0 : Nat) (h : aH) : Option (Int32 × aH) :=
  f_X9_bytesInObjects_4 FU x0 0 0 h
set_option maxRecDepth 100000 in
set_option maxHeartbeats 4000000 in
theorem t_X9_bytesInObjects {Γ : gS} {d : Nat} (hd : 0 ≤ d) {x0 : Nat} {h : aH} {r : Int32} {h' : aH} (H : f_X9_bytesInObjects x0 h = some (r, h')) : Mx Γ gX9_bytesInObjects d [.ref x0] h (some (.int r)) h' := by
  refine Mx.of (by decide +kernel) (Nat.le_of_ble_eq_true rfl) ?_
  unfold f_X9_bytesInObjects at H
  show Ex Γ gX9_bytesInObjects d 0 [(0, .ref x0)] [] h (some (.int r)) h'
  refine x_iconst (v := 0) dX9_bytesInObjects_0 (by decide) ?_
  refine x_istore_n (lv' := [(1, .int 0), (0, .ref x0)]) dX9_bytesInObjects_1 rfl (by decide) rfl rfl ?_
  refine x_iconst (v := 0) dX9_bytesInObjects_2 (by decide) ?_
  refine x_istore_n (lv' := [(2, .int 0), (1, .int 0), (0, .ref x0)]) dX9_bytesInObjects_3 rfl (by decide) rfl rfl ?_
  refine Ex.sub [2, 1, 0] rfl ?_
  exact t_X9_bytesInObjects_4 hd FU H
def b_X9_bytesAsked_4 (k4 : Nat → Int32 → Int32 → aH → Option (Int32 × aH)) (x0 : Nat) (x1 : Int32) (x2 : Int32) (h : aH) : Option (Int32 × aH) :=
  ko h x0 9 <|
  if (hI h x0 6) ≤ x2 then
    some (x1, h)
  else
    kr (hR h x0 3) fun a3 =>
    ka h a3 .int fun n6 =>
    chk (inb x2 n6 = true) <|
    nm (x1 + (hI h a3 x2.toNatClampNeg)) fun (v8 : Int32) =>
    nm (x2 + 1) fun (v9 : Int32) =>
    k4 x0 v8 v9 h
set_option maxRecDepth 100000 in
set_option maxHeartbeats 4000000 in
theorem tb_X9_bytesAsked_4 {Γ : gS} {d : Nat} (hd : 0 ≤ d) {k4 : Nat → Int32 → Int32 → aH → Option (Int32 × aH)} (hk4 : ∀ {x0 : Nat} {x1 : Int32} {x2 : Int32} {h : aH} {r : Int32} {h' : aH}, k4 x0 x1 x2 h = some (r, h') → Ex Γ gX9_bytesAsked d 4 [(0, .ref x0), (1, .int x1), (2, .int x2)] [] h (some (.int r)) h') {x0 : Nat} {x1 : Int32} {x2 : Int32} {h : aH} {r : Int32} {h' : aH} (H : b_X9_bytesAsked_4 k4 x0 x1 x2 h = some (r, h')) : Ex Γ gX9_bytesAsked d 4 [(0, .ref x0), (1, .int x1), (2, .int x2)] [] h (some (.int r)) h' := by
  unfold b_X9_bytesAsked_4 at H
  refine x_iload_n dX9_bytesAsked_4 rfl 2 rfl ?_
  refine x_aload_n dX9_bytesAsked_5 rfl 0 rfl ?_
  obtain ⟨c1, H⟩ := ko_o H
  refine x_getI fr_X9_33 dX9_bytesAsked_6 c1 rfl ?_
  refine x_icmp_ge (tgt := 27) dX9_bytesAsked_9 (by decide) (fun c2 => ?_) (fun c2 => ?_)
  · replace H := ite_p H c2
    refine x_iload_n dX9_bytesAsked_27 rfl 1 rfl ?_
    obtain ⟨rfl, rfl⟩ := so_1 H
    exact x_iret dX9_bytesAsked_28 rfl rfl
  · replace H := ite_m H c2
    refine x_iload_n dX9_bytesAsked_12 rfl 1 rfl ?_
    refine x_aload_n dX9_bytesAsked_13 rfl 0 rfl ?_
    obtain ⟨a3, c4, H⟩ := kr_o H
    refine x_getR fr_X9_24 dX9_bytesAsked_14 c1 rfl c4 ?_
    refine x_iload_n dX9_bytesAsked_17 rfl 2 rfl ?_
    obtain ⟨n6, c5, H⟩ := ka_o H
    obtain ⟨c7, H⟩ := chk_o H
    refine x_iald dX9_bytesAsked_18 c5 (inb_in.mp c7) ?_
    refine x_iadd dX9_bytesAsked_19 ?_
    obtain ⟨v8, ev8, H⟩ := nm_o H
    refine x_istore_n (lv' := [(1, .int v8), (0, .ref x0), (2, .int x2)]) dX9_bytesAsked_20 rfl (by decide) ev8 rfl ?_
    obtain ⟨v9, ev9, H⟩ := nm_o H
    refine x_iinc (v := v9) (lv' := [(2, .int v9), (1, .int v8), (0, .ref x0)]) dX9_bytesAsked_21 2 rfl (by decide) ev9 rfl ?_
    refine x_goto (tgt := 4) dX9_bytesAsked_24 (by decide) ?_
    refine Ex.sub [2, 1, 0] rfl ?_
    exact hk4 H
def f_X9_bytesAsked_4 : Nat → Nat → Int32 → Int32 → aH → Option (Int32 × aH)
  | 0 => fun _ _ _ _ => none
  | n + 1 => b_X9_bytesAsked_4 (f_X9_bytesAsked_4 n)
set_option maxRecDepth 100000 in
set_option maxHeartbeats 4000000 in
theorem t_X9_bytesAsked_4 {Γ : gS} {d : Nat} (hd : 0 ≤ d) (n : Nat) : ∀ {x0 : Nat} {x1 : Int32} {x2 : Int32} {h : aH} {r : Int32} {h' : aH}, f_X9_bytesAsked_4 n x0 x1 x2 h = some (r, h') → Ex Γ gX9_bytesAsked d 4 [(0, .ref x0), (1, .int x1), (2, .int x2)] [] h (some (.int r)) h' := by
  induction n with
  | zero => intro x0 x1 x2 h r h' H; cases H
  | succ n ih => intro x0 x1 x2 h r h' H; exact tb_X9_bytesAsked_4 hd ih H
def f_X9_bytesAsked (x0 : Nat) (h : aH) : Option (Int32 × aH) :=
  f_X9_bytesAsked_4 FU x0 0 0 h
set_option maxRecDepth 100000 in
set_option maxHeartbeats 4000000 in
theorem t_X9_bytesAsked {Γ : gS} {d : Nat} (hd : 0 ≤ d) {x0 : Nat} {h : aH} {r : Int32} {h' : aH} (H : f_X9_bytesAsked x0 h = some (r, h')) : Mx Γ gX9_bytesAsked d [.ref x0] h (some (.int r)) h' := by
  refine Mx.of (by decide +kernel) (Nat.le_of_ble_eq_true rfl) ?_
  unfold f_X9_bytesAsked at H
  show Ex Γ gX9_bytesAsked d 0 [(0, .ref x0)] [] h (some (.int r)) h'
  refine x_iconst (v := 0) dX9_bytesAsked_0 (by decide) ?_
  refine x_istore_n (lv' := [(1, .int 0), (0, .ref x0)]) dX9_bytesAsked_1 rfl (by decide) rfl rfl ?_
  refine x_iconst (v := 0) dX9_bytesAsked_2 (by decide) ?_
  refine x_istore_n (lv' := [(2, .int 0), (1, .int 0), (0, .ref x0)]) dX9_bytesAsked_3 rfl (by decide) rfl rfl ?_
  refine Ex.sub [2, 1, 0] rfl ?_
  exact t_X9_bytesAsked_4 hd FU H
def f_X9_objectWith_32 (k2 : Nat → Int32 → Int32 → Int32 → aH → Option (Int32 × aH)) (x0 : Nat) (x1 : Int32) (x2 : Int32) (x3 : Int32) (h : aH) : Option (Int32 × aH) :=
  nm (x3 + 1) fun (v1 : Int32) =>
  k2 x0 x1 x2 v1 h
set_option maxRecDepth 100000 in
set_option maxHeartbeats 4000000 in
theorem t_X9_objectWith_32 {Γ : gS} {d : Nat} (hd : 0 ≤ d) {k2 : Nat → Int32 → Int32 → Int32 → aH → Option (Int32 × aH)} (hk2 : ∀ {x0 : Nat} {x1 : Int32} {x2 : Int32} {x3 : Int32} {h : aH} {r : Int32} {h' : aH}, k2 x0 x1 x2 x3 h = some (r, h') → Ex Γ gX9_objectWith d 2 [(0, .ref x0), (1, .int x1), (2, .int x2), (3, .int x3)] [] h (some (.int r)) h') {x0 : Nat} {x1 : Int32} {x2 : Int32} {x3 : Int32} {h : aH} {r : Int32} {h' : aH} (H : f_X9_objectWith_32 k2 x0 x1 x2 x3 h = some (r, h')) : Ex Γ gX9_objectWith d 32 [(0, .ref x0), (1, .int x1), (2, .int x2), (3, .int x3)] [] h (some (.int r)) h' := by
  unfold f_X9_objectWith_32 at H
  obtain ⟨v1, ev1, H⟩ := nm_o H
  refine x_iinc (v := v1) (lv' := [(3, .int v1), (0, .ref x0), (1, .int x1), (2, .int x2)]) dX9_objectWith_32 3 rfl (by decide) ev1 rfl ?_
  refine x_goto (tgt := 2) dX9_objectWith_35 (by decide) ?_
  refine Ex.sub [1, 2, 3, 0] rfl ?_
  exact hk2 H
def b_X9_objectWith_2 (k2 : Nat → Int32 → Int32 → Int32 → aH → Option (Int32 × aH)) (x0 : Nat) (x1 : Int32) (x2 : Int32) (x3 : Int32) (h : aH) : Option (Int32 × aH) :=
  ko h x0 9 <|
  if (hI h x0 6) ≤ x3 then
    some ((-1), h)
  else
    kr (hR h x0 1) fun a4 =>
    ka h a4 .int fun n7 =>
    chk (inb x3 n7 = true) <|
    if (hI h a4 x3.toNatClampNeg) = x1 then
      kr (hR h x0 2) fun a10 =>
      ka h a10 .int fun n13 =>
      chk (inb x3 n13 = true) <|
      if (hI h a10 x3.toNatClampNeg) = x2 then
        some (x3, h)
      else
        f_X9_objectWith_32 k2 x0 x1 x2 x3 h
    else
      f_X9_objectWith_32 k2 x0 x1 x2 x3 h
set_option maxRecDepth 100000 in
set_option maxHeartbeats 4000000 in
theorem tb_X9_objectWith_2 {Γ : gS} {d : Nat} (hd : 0 ≤ d) {k2 : Nat → Int32 → Int32 → Int32 → aH → Option (Int32 × aH)} (hk2 : ∀ {x0 : Nat} {x1 : Int32} {x2 : Int32} {x3 : Int32} {h : aH} {r : Int32} {h' : aH}, k2 x0 x1 x2 x3 h = some (r, h') → Ex Γ gX9_objectWith d 2 [(0, .ref x0), (1, .int x1), (2, .int x2), (3, .int x3)] [] h (some (.int r)) h') {x0 : Nat} {x1 : Int32} {x2 : Int32} {x3 : Int32} {h : aH} {r : Int32} {h' : aH} (H : b_X9_objectWith_2 k2 x0 x1 x2 x3 h = some (r, h')) : Ex Γ gX9_objectWith d 2 [(0, .ref x0), (1, .int x1), (2, .int x2), (3, .int x3)] [] h (some (.int r)) h' := by
  unfold b_X9_objectWith_2 at H
  refine x_iload_n dX9_objectWith_2 rfl 3 rfl ?_
  refine x_aload_n dX9_objectWith_3 rfl 0 rfl ?_
  obtain ⟨c2, H⟩ := ko_o H
  refine x_getI fr_X9_33 dX9_objectWith_4 c2 rfl ?_
  refine x_icmp_ge (tgt := 38) dX9_objectWith_7 (by decide) (fun c3 => ?_) (fun c3 => ?_)
  · replace H := ite_p H c3
    refine x_iconst (v := (-1)) dX9_objectWith_38 (by decide) ?_
    obtain ⟨rfl, rfl⟩ := so_1 H
    exact x_iret dX9_objectWith_39 rfl rfl
  · replace H := ite_m H c3
    refine x_aload_n dX9_objectWith_10 rfl 0 rfl ?_
    obtain ⟨a4, c5, H⟩ := kr_o H
    refine x_getR fr_X9_17 dX9_objectWith_11 c2 rfl c5 ?_
    refine x_iload_n dX9_objectWith_14 rfl 3 rfl ?_
    obtain ⟨n7, c6, H⟩ := ka_o H
    obtain ⟨c8, H⟩ := chk_o H
    refine x_iald dX9_objectWith_15 c6 (inb_in.mp c8) ?_
    refine x_iload_n dX9_objectWith_16 rfl 1 rfl ?_
    refine x_icmp_ne (tgt := 32) dX9_objectWith_17 (by decide) (fun c9 => ?_) (fun c9 => ?_)
    · replace H := ite_m H c9
      exact t_X9_objectWith_32 hd hk2 H
    · replace H := ite_p H c9
      refine x_aload_n dX9_objectWith_20 rfl 0 rfl ?_
      obtain ⟨a10, c11, H⟩ := kr_o H
      refine x_getR fr_X9_21 dX9_objectWith_21 c2 rfl c11 ?_
      refine x_iload_n dX9_objectWith_24 rfl 3 rfl ?_
      obtain ⟨n13, c12, H⟩ := ka_o H
      obtain ⟨c14, H⟩ := chk_o H
      refine x_iald dX9_objectWith_25 c12 (inb_in.mp c14) ?_
      refine x_iload_n dX9_objectWith_26 rfl 2 rfl ?_
      refine x_icmp_ne (tgt := 32) dX9_objectWith_27 (by decide) (fun c15 => ?_) (fun c15 => ?_)
      · replace H := ite_m H c15
        exact t_X9_objectWith_32 hd hk2 H
      · replace H := ite_p H c15
        refine x_iload_n dX9_objectWith_30 rfl 3 rfl ?_
        obtain ⟨rfl, rfl⟩ := so_1 H
        exact x_iret dX9_objectWith_31 rfl rfl
def f_X9_objectWith_2 : Nat → Nat → Int32 → Int32 → Int32 → aH → Option (Int32 × aH)
  | 0 => fun _ _ _ _ _ => none
  | n + 1 => b_X9_objectWith_2 (f_X9_objectWith_2 n)
set_option maxRecDepth 100000 in
set_option maxHeartbeats 4000000 in
theorem t_X9_objectWith_2 {Γ : gS} {d : Nat} (hd : 0 ≤ d) (n : Nat) : ∀ {x0 : Nat} {x1 : Int32} {x2 : Int32} {x3 : Int32} {h : aH} {r : Int32} {h' : aH}, f_X9_objectWith_2 n x0 x1 x2 x3 h = some (r, h') → Ex Γ gX9_objectWith d 2 [(0, .ref x0), (1, .int x1), (2, .int x2), (3, .int x3)] [] h (some (.int r)) h' := by
  induction n with
  | zero => intro x0 x1 x2 x3 h r h' H; cases H
  | succ n ih => intro x0 x1 x2 x3 h r h' H; exact tb_X9_objectWith_2 hd ih H
def f_X9_objectWith (x0 : Nat) (x1 : Int32) (x2 : Int32) (h : aH) : Option (Int32 × aH) :=
  f_X9_objectWith_2 FU x0 x1 x2 0 h
set_option maxRecDepth 100000 in
set_option maxHeartbeats 4000000 in
theorem t_X9_objectWith {Γ : gS} {d : Nat} (hd : 0 ≤ d) {x0 : Nat} {x1 : Int32} {x2 : Int32} {h : aH} {r : Int32} {h' : aH} (H : f_X9_objectWith x0 x1 x2 h = some (r, h')) : Mx Γ gX9_objectWith d [.ref x0, .int x1, .int x2] h (some (.int r)) h' := by
  refine Mx.of (by decide +kernel) (Nat.le_of_ble_eq_true rfl) ?_
  unfold f_X9_objectWith at H
  show Ex Γ gX9_objectWith d 0 [(0, .ref x0), (1, .int x1), (2, .int x2)] [] h (some (.int r)) h'
  refine x_iconst (v := 0) dX9_objectWith_0 (by decide) ?_
  refine x_istore_n (lv' := [(3, .int 0), (0, .ref x0), (1, .int x1), (2, .int x2)]) dX9_objectWith_1 rfl (by decide) rfl rfl ?_
  refine Ex.sub [1, 2, 3, 0] rfl ?_
  exact t_X9_objectWith_2 hd FU H
def f_X9_gapStart_35 (s0 : Int32) (h : aH) : Option (Int32 × aH) :=
  some (s0, h)
set_option maxRecDepth 100000 in
set_option maxHeartbeats 4000000 in
theorem t_X9_gapStart_35 {Γ : gS} {d : Nat} (hd : 0 ≤ d) {s0 : Int32} {h : aH} {r : Int32} {h' : aH} (H : f_X9_gapStart_35 s0 h = some (r, h')) : Ex Γ gX9_gapStart d 35 [] [.int s0] h (some (.int r)) h' := by
  unfold f_X9_gapStart_35 at H
  obtain ⟨rfl, rfl⟩ := so_1 H
  exact x_iret dX9_gapStart_35 rfl rfl
def f_X9_gapStart_33 (h : aH) : Option (Int32 × aH) :=
  f_X9_gapStart_35 16 h
set_option maxRecDepth 100000 in
set_option maxHeartbeats 4000000 in
theorem t_X9_gapStart_33 {Γ : gS} {d : Nat} (hd : 0 ≤ d) {h : aH} {r : Int32} {h' : aH} (H : f_X9_gapStart_33 h = some (r, h')) : Ex Γ gX9_gapStart d 33 [] [] h (some (.int r)) h' := by
  unfold f_X9_gapStart_33 at H
  refine x_bipush (v := 16) dX9_gapStart_33 (by decide) ?_
  exact t_X9_gapStart_35 hd H
def f_X9_gapStart (x0 : Nat) (x1 : Int32) (h : aH) : Option (Int32 × aH) :=
  if x1 < 1 then
    f_X9_gapStart_33 h
  else
    ko h x0 9 <|
    if (hI h x0 6) < x1 then
      f_X9_gapStart_33 h
    else
      kr (hR h x0 1) fun a4 =>
      ka h a4 .int fun n7 =>
      chk (inb (x1 - 1) n7 = true) <|
      kr (hR h x0 2) fun a9 =>
      ka h a9 .int fun n12 =>
      chk (inb (x1 - 1) n12 = true) <|
      f_X9_gapStart_35 ((hI h a4 (x1 - 1 : Int32).toNatClampNeg) + (hI h a9 (x1 - 1 : Int32).toNatClampNeg)) h
set_option maxRecDepth 100000 in
set_option maxHeartbeats 4000000 in
theorem t_X9_gapStart {Γ : gS} {d : Nat} (hd : 0 ≤ d) {x0 : Nat} {x1 : Int32} {h : aH} {r : Int32} {h' : aH} (H : f_X9_gapStart x0 x1 h = some (r, h')) : Mx Γ gX9_gapStart d [.ref x0, .int x1] h (some (.int r)) h' := by
  refine Mx.of (by decide +kernel) (Nat.le_of_ble_eq_true rfl) ?_
  unfold f_X9_gapStart at H
  show Ex Γ gX9_gapStart d 0 [(0, .ref x0), (1, .int x1)] [] h (some (.int r)) h'
  refine x_iload_n dX9_gapStart_0 rfl 1 rfl ?_
  refine x_iconst (v := 1) dX9_gapStart_1 (by decide) ?_
  refine x_icmp_lt (tgt := 33) dX9_gapStart_2 (by decide) (fun c1 => ?_) (fun c1 => ?_)
  · replace H := ite_p H c1
    refine Ex.sub [] rfl ?_
    exact t_X9_gapStart_33 hd H
  · replace H := ite_m H c1
    refine x_iload_n dX9_gapStart_5 rfl 1 rfl ?_
    refine x_aload_n dX9_gapStart_6 rfl 0 rfl ?_
    obtain ⟨c2, H⟩ := ko_o H
    refine x_getI fr_X9_33 dX9_gapStart_7 c2 rfl ?_
    refine x_icmp_gt (tgt := 33) dX9_gapStart_10 (by decide) (fun c3 => ?_) (fun c3 => ?_)
    · replace H := ite_p H c3
      refine Ex.sub [] rfl ?_
      exact t_X9_gapStart_33 hd H
    · replace H := ite_m H c3
      refine x_aload_n dX9_gapStart_13 rfl 0 rfl ?_
      obtain ⟨a4, c5, H⟩ := kr_o H
      refine x_getR fr_X9_17 dX9_gapStart_14 c2 rfl c5 ?_
      refine x_iload_n dX9_gapStart_17 rfl 1 rfl ?_
      refine x_iconst (v := 1) dX9_gapStart_18 (by decide) ?_
      refine x_isub dX9_gapStart_19 ?_
      obtain ⟨n7, c6, H⟩ := ka_o H
      obtain ⟨c8, H⟩ := chk_o H
      refine x_iald dX9_gapStart_20 c6 (inb_in.mp c8) ?_
      refine x_aload_n dX9_gapStart_21 rfl 0 rfl ?_
      obtain ⟨a9, c10, H⟩ := kr_o H
      refine x_getR fr_X9_21 dX9_gapStart_22 c2 rfl c10 ?_
      refine x_iload_n dX9_gapStart_25 rfl 1 rfl ?_
      refine x_iconst (v := 1) dX9_gapStart_26 (by decide) ?_
      refine x_isub dX9_gapStart_27 ?_
      obtain ⟨n12, c11, H⟩ := ka_o H
      obtain ⟨c13, H⟩ := chk_o H
      refine x_iald dX9_gapStart_28 c11 (inb_in.mp c13) ?_
      refine x_iadd dX9_gapStart_29 ?_
      refine x_goto (tgt := 35) dX9_gapStart_30 (by decide) ?_
      refine Ex.sub [] rfl ?_
      exact t_X9_gapStart_35 hd H
def f_X9_gapLength_22 (x0 : Nat) (x1 : Int32) (s0 : Int32) (h : aH) : Option (Int32 × aH) :=
  ko h x0 9 <|
  bd (f_X9_gapStart x0 x1 h) fun v1 h2 =>
  some (s0 - v1, h2)
set_option maxRecDepth 100000 in
set_option maxHeartbeats 4000000 in
theorem t_X9_gapLength_22 {Γ : gS} {d : Nat} (hd : 1 ≤ d) {x0 : Nat} {x1 : Int32} {s0 : Int32} {h : aH} {r : Int32} {h' : aH} (H : f_X9_gapLength_22 x0 x1 s0 h = some (r, h')) : Ex Γ gX9_gapLength d 22 [(0, .ref x0), (1, .int x1)] [.int s0] h (some (.int r)) h' := by
  unfold f_X9_gapLength_22 at H
  obtain ⟨d, rfl⟩ : ∃ e, d = e + 1 := ⟨d - 1, by omega⟩
  refine x_istore_n (lv' := [(3, .int s0), (0, .ref x0), (1, .int x1)]) dX9_gapLength_22 rfl (by decide) rfl rfl ?_
  refine x_iload_n dX9_gapLength_23 rfl 0 rfl ?_
  refine x_aload_n dX9_gapLength_24 rfl 1 rfl ?_
  refine x_iload_n dX9_gapLength_25 rfl 2 rfl ?_
  obtain ⟨c4, H⟩ := ko_o H
  obtain ⟨v1, h2, hc3, H⟩ := bd_o H
  refine x_callVi (As := [.int x1]) (q := (RX9, TX9, 8)) dX9_gapLength_26 mi_X9_gapStart lk_X9_65 im_X9_gapStart se_X9_gapStart rfl c4 rfl rfl (Nat.le_of_ble_eq_true rfl) (t_X9_gapStart (by omega) hc3) ?_
  refine x_isub dX9_gapLength_29 ?_
  obtain ⟨rfl, rfl⟩ := so_1 H
  exact x_iret dX9_gapLength_30 rfl rfl
def f_X9_gapLength_21 (x0 : Nat) (x1 : Int32) (x2 : Int32) (h : aH) : Option (Int32 × aH) :=
  f_X9_gapLength_22 x0 x1 x2 h
set_option maxRecDepth 100000 in
set_option maxHeartbeats 4000000 in
theorem t_X9_gapLength_21 {Γ : gS} {d : Nat} (hd : 1 ≤ d) {x0 : Nat} {x1 : Int32} {x2 : Int32} {h : aH} {r : Int32} {h' : aH} (H : f_X9_gapLength_21 x0 x1 x2 h = some (r, h')) : Ex Γ gX9_gapLength d 21 [(0, .ref x0), (1, .int x1), (2, .int x2)] [] h (some (.int r)) h' := by
  unfold f_X9_gapLength_21 at H
  obtain ⟨d, rfl⟩ : ∃ e, d = e + 1 := ⟨d - 1, by omega⟩
  refine x_iload_n dX9_gapLength_21 rfl 2 rfl ?_
  refine Ex.sub [0, 1] rfl ?_
  exact t_X9_gapLength_22 hd H
def f_X9_gapLength (x0 : Nat) (x1 : Int32) (x2 : Int32) (h : aH) : Option (Int32 × aH) :=
  if x1 < 0 then
    f_X9_gapLength_21 x0 x1 x2 h
  else
    ko h x0 9 <|
    if (hI h x0 6) ≤ x1 then
      f_X9_gapLength_21 x0 x1 x2 h
    else
      kr (hR h x0 1) fun a8 =>
      ka h a8 .int fun n11 =>
      chk (inb x1 n11 = true) <|
      f_X9_gapLength_22 x0 x1 (hI h a8 x1.toNatClampNeg) h
set_option maxRecDepth 100000 in
set_option maxHeartbeats 4000000 in
theorem t_X9_gapLength {Γ : gS} {d : Nat} (hd : 1 ≤ d) {x0 : Nat} {x1 : Int32} {x2 : Int32} {h : aH} {r : Int32} {h' : aH} (H : f_X9_gapLength x0 x1 x2 h = some (r, h')) : Mx Γ gX9_gapLength d [.ref x0, .int x1, .int x2] h (some (.int r)) h' := by
  refine Mx.of (by decide +kernel) (Nat.le_of_ble_eq_true rfl) ?_
  unfold f_X9_gapLength at H
  show Ex Γ gX9_gapLength d 0 [(0, .ref x0), (1, .int x1), (2, .int x2)] [] h (some (.int r)) h'
  obtain ⟨d, rfl⟩ : ∃ e, d = e + 1 := ⟨d - 1, by omega⟩
  refine x_iload_n dX9_gapLength_0 rfl 1 rfl ?_
  refine x_if_lt (tgt := 21) dX9_gapLength_1 (by decide) (fun c5 => ?_) (fun c5 => ?_)
  · replace H := ite_p H c5
    exact t_X9_gapLength_21 hd H
  · replace H := ite_m H c5
    refine x_iload_n dX9_gapLength_4 rfl 1 rfl ?_
    refine x_aload_n dX9_gapLength_5 rfl 0 rfl ?_
    obtain ⟨c6, H⟩ := ko_o H
    refine x_getI fr_X9_33 dX9_gapLength_6 c6 rfl ?_
    refine x_icmp_ge (tgt := 21) dX9_gapLength_9 (by decide) (fun c7 => ?_) (fun c7 => ?_)
    · replace H := ite_p H c7
      exact t_X9_gapLength_21 hd H
    · replace H := ite_m H c7
      refine x_aload_n dX9_gapLength_12 rfl 0 rfl ?_
      obtain ⟨a8, c9, H⟩ := kr_o H
      refine x_getR fr_X9_17 dX9_gapLength_13 c6 rfl c9 ?_
      refine x_iload_n dX9_gapLength_16 rfl 1 rfl ?_
      obtain ⟨n11, c10, H⟩ := ka_o H
      obtain ⟨c12, H⟩ := chk_o H
      refine x_iald dX9_gapLength_17 c10 (inb_in.mp c12) ?_
      refine x_goto (tgt := 22) dX9_gapLength_18 (by decide) ?_
      refine Ex.sub [0, 1] rfl ?_
      exact t_X9_gapLength_22 hd H
def f_X9_gapOfHole_35 (k5 : Nat → Int32 → Int32 → Int32 → Int32 → aH → Option (Int32 × aH)) (x0 : Nat) (x1 : Int32) (x2 : Int32) (x3 : Int32) (x4 : Int32) (h : aH) : Option (Int32 × aH) :=
  nm (x4 + 1) fun (v1 : Int32) =>
  k5 x0 x1 x2 x3 v1 h
set_option maxRecDepth 100000 in
set_option maxHeartbeats 4000000 in
theorem t_X9_gapOfHole_35 {Γ : gS} {d : Nat} (hd : 2 ≤ d) {k5 : Nat → Int32 → Int32 → Int32 → Int32 → aH → Option (Int32 × aH)} (hk5 : ∀ {x0 : Nat} {x1 : Int32} {x2 : Int32} {x3 : Int32} {x4 : Int32} {h : aH} {r : Int32} {h' : aH}, k5 x0 x1 x2 x3 x4 h = some (r, h') → Ex Γ gX9_gapOfHole d 5 [(0, .ref x0), (1, .int x1), (2, .int x2), (3, .int x3), (4, .int x4)] [] h (some (.int r)) h') {x0 : Nat} {x1 : Int32} {x2 : Int32} {x3 : Int32} {x4 : Int32} {h : aH} {r : Int32} {h' : aH} (H : f_X9_gapOfHole_35 k5 x0 x1 x2 x3 x4 h = some (r, h')) : Ex Γ gX9_gapOfHole d 35 [(0, .ref x0), (1, .int x1), (2, .int x2), (3, .int x3), (4, .int x4)] [] h (some (.int r)) h' := by
  unfold f_X9_gapOfHole_35 at H
  obtain ⟨d, rfl⟩ : ∃ e, d = e + 1 := ⟨d - 1, by omega⟩
  obtain ⟨v1, ev1, H⟩ := nm_o H
  refine x_iinc (v := v1) (lv' := [(4, .int v1), (0, .ref x0), (1, .int x1), (2, .int x2), (3, .int x3)]) dX9_gapOfHole_35 4 rfl (by decide) ev1 rfl ?_
  refine x_goto (tgt := 5) dX9_gapOfHole_38 (by decide) ?_
  refine Ex.sub [1, 2, 3, 4, 0] rfl ?_
  exact hk5 H
def b_X9_gapOfHole_5 (k5 : Nat → Int32 → Int32 → Int32 → Int32 → aH → Option (Int32 × aH)) (x0 : Nat) (x1 : Int32) (x2 : Int32) (x3 : Int32) (x4 : Int32) (h : aH) : Option (Int32 × aH) :=
  ko h x0 9 <|
  if (hI h x0 6) < x4 then
    some ((-1), h)
  else
    bd (f_X9_gapLength x0 x4 x2 h) fun v4 h5 =>
    if v4 ≤ 0 then
      f_X9_gapOfHole_35 k5 x0 x1 x2 x3 x4 h5
    else
      if x3 = x1 then
        some (x4, h5)
      else
        nm (x3 + 1) fun (v9 : Int32) =>
        f_X9_gapOfHole_35 k5 x0 x1 x2 v9 x4 h5
set_option maxRecDepth 100000 in
set_option maxHeartbeats 4000000 in
theorem tb_X9_gapOfHole_5 {Γ : gS} {d : Nat} (hd : 2 ≤ d) {k5 : Nat → Int32 → Int32 → Int32 → Int32 → aH → Option (Int32 × aH)} (hk5 : ∀ {x0 : Nat} {x1 : Int32} {x2 : Int32} {x3 : Int32} {x4 : Int32} {h : aH} {r : Int32} {h' : aH}, k5 x0 x1 x2 x3 x4 h = some (r, h') → Ex Γ gX9_gapOfHole d 5 [(0, .ref x0), (1, .int x1), (2, .int x2), (3, .int x3), (4, .int x4)] [] h (some (.int r)) h') {x0 : Nat} {x1 : Int32} {x2 : Int32} {x3 : Int32} {x4 : Int32} {h : aH} {r : Int32} {h' : aH} (H : b_X9_gapOfHole_5 k5 x0 x1 x2 x3 x4 h = some (r, h')) : Ex Γ gX9_gapOfHole d 5 [(0, .ref x0), (1, .int x1), (2, .int x2), (3, .int x3), (4, .int x4)] [] h (some (.int r)) h' := by
  unfold b_X9_gapOfHole_5 at H
  obtain ⟨d, rfl⟩ : ∃ e, d = e + 1 := ⟨d - 1, by omega⟩
  refine x_iload dX9_gapOfHole_5 4 rfl ?_
  refine x_aload_n dX9_gapOfHole_7 rfl 0 rfl ?_
  obtain ⟨c2, H⟩ := ko_o H
  refine x_getI fr_X9_33 dX9_gapOfHole_8 c2 rfl ?_
  refine x_icmp_gt (tgt := 41) dX9_gapOfHole_11 (by decide) (fun c3 => ?_) (fun c3 => ?_)
  · replace H := ite_p H c3
    refine x_iconst (v := (-1)) dX9_gapOfHole_41 (by decide) ?_
    obtain ⟨rfl, rfl⟩ := so_1 H
    exact x_iret dX9_gapOfHole_42 rfl rfl
  · replace H := ite_m H c3
    refine x_aload_n dX9_gapOfHole_14 rfl 0 rfl ?_
    refine x_iload dX9_gapOfHole_15 4 rfl ?_
    refine x_iload_n dX9_gapOfHole_17 rfl 2 rfl ?_
    obtain ⟨v4, h5, hc6, H⟩ := bd_o H
    refine x_callVi (As := [.int x4, .int x2]) (q := (RX9, TX9, 8)) dX9_gapOfHole_18 mi_X9_gapLength lk_X9_69 im_X9_gapLength se_X9_gapLength rfl c2 rfl rfl (Nat.le_of_ble_eq_true rfl) (t_X9_gapLength (by omega) hc6) ?_
    refine x_if_le (tgt := 35) dX9_gapOfHole_21 (by decide) (fun c7 => ?_) (fun c7 => ?_)
    · replace H := ite_p H c7
      exact t_X9_gapOfHole_35 hd hk5 H
    · replace H := ite_m H c7
      refine x_iload_n dX9_gapOfHole_24 rfl 3 rfl ?_
      refine x_iload_n dX9_gapOfHole_25 rfl 1 rfl ?_
      refine x_icmp_ne (tgt := 32) dX9_gapOfHole_26 (by decide) (fun c8 => ?_) (fun c8 => ?_)
      · replace H := ite_m H c8
        obtain ⟨v9, ev9, H⟩ := nm_o H
        refine x_iinc (v := v9) (lv' := [(3, .int v9), (0, .ref x0), (1, .int x1), (2, .int x2), (4, .int x4)]) dX9_gapOfHole_32 3 rfl (by decide) ev9 rfl ?_
        refine Ex.sub [1, 2, 3, 0, 4] rfl ?_
        exact t_X9_gapOfHole_35 hd hk5 H
      · replace H := ite_p H c8
        refine x_iload dX9_gapOfHole_29 4 rfl ?_
        obtain ⟨rfl, rfl⟩ := so_1 H
        exact x_iret dX9_gapOfHole_31 rfl rfl
def f_X9_gapOfHole_5 : Nat → Nat → Int32 → Int32 → Int32 → Int32 → aH → Option (Int32 × aH)
  | 0 => fun _ _ _ _ _ _ => none
  | n + 1 => b_X9_gapOfHole_5 (f_X9_gapOfHole_5 n)
set_option maxRecDepth 100000 in
set_option maxHeartbeats 4000000 in
theorem t_X9_gapOfHole_5 {Γ : gS} {d : Nat} (hd : 2 ≤ d) (n : Nat) : ∀ {x0 : Nat} {x1 : Int32} {x2 : Int32} {x3 : Int32} {x4 : Int32} {h : aH} {r : Int32} {h' : aH}, f_X9_gapOfHole_5 n x0 x1 x2 x3 x4 h = some (r, h') → Ex Γ gX9_gapOfHole d 5 [(0, .ref x0), (1, .int x1), (2, .int x2), (3, .int x3), (4, .int x4)] [] h (some (.int r)) h' := by
  induction n with
  | zero => intro x0 x1 x2 x3 x4 h r h' H; cases H
  | succ n ih => intro x0 x1 x2 x3 x4 h r h' H; exact tb_X9_gapOfHole_5 hd ih H
def f_X9_gapOfHole (x0 : Nat) (x1 : Int32) (x2 : Int32) (h : aH) : Option (Int32 × aH) :=
  f_X9_gapOfHole_5 FU x0 x1 x2 0 0 h
set_option maxRecDepth 100000 in
set_option maxHeartbeats 4000000 in
theorem t_X9_gapOfHole {Γ : gS} {d : Nat} (hd : 2 ≤ d) {x0 : Nat} {x1 : Int32} {x2 : Int32} {h : aH} {r : Int32} {h' : aH} (H : f_X9_gapOfHole x0 x1 x2 h = some (r, h')) : Mx Γ gX9_gapOfHole d [.ref x0, .int x1, .int x2] h (some (.int r)) h' := by
  refine Mx.of (by decide +kernel) (Nat.le_of_ble_eq_true rfl) ?_
  unfold f_X9_gapOfHole at H
  show Ex Γ gX9_gapOfHole d 0 [(0, .ref x0), (1, .int x1), (2, .int x2)] [] h (some (.int r)) h'
  obtain ⟨d, rfl⟩ : ∃ e, d = e + 1 := ⟨d - 1, by omega⟩
  refine x_iconst (v := 0) dX9_gapOfHole_0 (by decide) ?_
  refine x_istore_n (lv' := [(3, .int 0), (0, .ref x0), (1, .int x1), (2, .int x2)]) dX9_gapOfHole_1 rfl (by decide) rfl rfl ?_
  refine x_iconst (v := 0) dX9_gapOfHole_2 (by decide) ?_
  refine x_istore (lv' := [(4, .int 0), (3, .int 0), (0, .ref x0), (1, .int x1), (2, .int x2)]) dX9_gapOfHole_3 (by decide) rfl rfl ?_
  refine Ex.sub [2, 3, 4, 1, 0] rfl ?_
  exact t_X9_gapOfHole_5 hd FU H
def f_X9_countHoles_24 (k4 : Nat → Int32 → Int32 → Int32 → aH → Option (Int32 × aH)) (x0 : Nat) (x1 : Int32) (x2 : Int32) (x3 : Int32) (h : aH) : Option (Int32 × aH) :=
  nm (x3 + 1) fun (v1 : Int32) =>
  k4 x0 x1 x2 v1 h
set_option maxRecDepth 100000 in
set_option maxHeartbeats 4000000 in
theorem t_X9_countHoles_24 {Γ : gS} {d : Nat} (hd : 2 ≤ d) {k4 : Nat → Int32 → Int32 → Int32 → aH → Option (Int32 × aH)} (hk4 : ∀ {x0 : Nat} {x1 : Int32} {x2 : Int32} {x3 : Int32} {h : aH} {r : Int32} {h' : aH}, k4 x0 x1 x2 x3 h = some (r, h') → Ex Γ gX9_countHoles d 4 [(0, .ref x0), (1, .int x1), (2, .int x2), (3, .int x3)] [] h (some (.int r)) h') {x0 : Nat} {x1 : Int32} {x2 : Int32} {x3 : Int32} {h : aH} {r : Int32} {h' : aH} (H : f_X9_countHoles_24 k4 x0 x1 x2 x3 h = some (r, h')) : Ex Γ gX9_countHoles d 24 [(0, .ref x0), (1, .int x1), (2, .int x2), (3, .int x3)] [] h (some (.int r)) h' := by
  unfold f_X9_countHoles_24 at H
  obtain ⟨d, rfl⟩ : ∃ e, d = e + 1 := ⟨d - 1, by omega⟩
  obtain ⟨v1, ev1, H⟩ := nm_o H
  refine x_iinc (v := v1) (lv' := [(3, .int v1), (0, .ref x0), (1, .int x1), (2, .int x2)]) dX9_countHoles_24 3 rfl (by decide) ev1 rfl ?_
  refine x_goto (tgt := 4) dX9_countHoles_27 (by decide) ?_
  refine Ex.sub [1, 2, 3, 0] rfl ?_
  exact hk4 H
def b_X9_countHoles_4 (k4 : Nat → Int32 → Int32 → Int32 → aH → Option (Int32 × aH)) (x0 : Nat) (x1 : Int32) (x2 : Int32) (x3 : Int32) (h : aH) : Option (Int32 × aH) :=
  ko h x0 9 <|
  if (hI h x0 6) < x3 then
    some (x2, h)
  else
    bd (f_X9_gapLength x0 x3 x1 h) fun v4 h5 =>
    if v4 ≤ 0 then
      f_X9_countHoles_24 k4 x0 x1 x2 x3 h5
    else
      nm (x2 + 1) fun (v8 : Int32) =>
      f_X9_countHoles_24 k4 x0 x1 v8 x3 h5
set_option maxRecDepth 100000 in
set_option maxHeartbeats 4000000 in
theorem tb_X9_countHoles_4 {Γ : gS} {d : Nat} (hd : 2 ≤ d) {k4 : Nat → Int32 → Int32 → Int32 → aH → Option (Int32 × aH)} (hk4 : ∀ {x0 : Nat} {x1 : Int32} {x2 : Int32} {x3 : Int32} {h : aH} {r : Int32} {h' : aH}, k4 x0 x1 x2 x3 h = some (r, h') → Ex Γ gX9_countHoles d 4 [(0, .ref x0), (1, .int x1), (2, .int x2), (3, .int x3)] [] h (some (.int r)) h') {x0 : Nat} {x1 : Int32} {x2 : Int32} {x3 : Int32} {h : aH} {r : Int32} {h' : aH} (H : b_X9_countHoles_4 k4 x0 x1 x2 x3 h = some (r, h')) : Ex Γ gX9_countHoles d 4 [(0, .ref x0), (1, .int x1), (2, .int x2), (3, .int x3)] [] h (some (.int r)) h' := by
  unfold b_X9_countHoles_4 at H
  obtain ⟨d, rfl⟩ : ∃ e, d = e + 1 := ⟨d - 1, by omega⟩
  refine x_iload_n dX9_countHoles_4 rfl 3 rfl ?_
  refine x_aload_n dX9_countHoles_5 rfl 0 rfl ?_
  obtain ⟨c2, H⟩ := ko_o H
  refine x_getI fr_X9_33 dX9_countHoles_6 c2 rfl ?_
  refine x_icmp_gt (tgt := 30) dX9_countHoles_9 (by decide) (fun c3 => ?_) (fun c3 => ?_)
  · replace H := ite_p H c3
    refine x_iload_n dX9_countHoles_30 rfl 2 rfl ?_
    obtain ⟨rfl, rfl⟩ := so_1 H
    exact x_iret dX9_countHoles_31 rfl rfl
  · replace H := ite_m H c3
    refine x_aload_n dX9_countHoles_12 rfl 0 rfl ?_
    refine x_iload_n dX9_countHoles_13 rfl 3 rfl ?_
    refine x_iload_n dX9_countHoles_14 rfl 1 rfl ?_
    obtain ⟨v4, h5, hc6, H⟩ := bd_o H
    refine x_callVi (As := [.int x3, .int x1]) (q := (RX9, TX9, 8)) dX9_countHoles_15 mi_X9_gapLength lk_X9_69 im_X9_gapLength se_X9_gapLength rfl c2 rfl rfl (Nat.le_of_ble_eq_true rfl) (t_X9_gapLength (by omega) hc6) ?_
    refine x_if_le (tgt := 24) dX9_countHoles_18 (by decide) (fun c7 => ?_) (fun c7 => ?_)
    · replace H := ite_p H c7
      exact t_X9_countHoles_24 hd hk4 H
    · replace H := ite_m H c7
      obtain ⟨v8, ev8, H⟩ := nm_o H
      refine x_iinc (v := v8) (lv' := [(2, .int v8), (0, .ref x0), (1, .int x1), (3, .int x3)]) dX9_countHoles_21 2 rfl (by decide) ev8 rfl ?_
      refine Ex.sub [1, 2, 0, 3] rfl ?_
      exact t_X9_countHoles_24 hd hk4 H
def f_X9_countHoles_4 : Nat → Nat → Int32 → Int32 → Int32 → aH → Option (Int32 × aH)
  | 0 => fun _ _ _ _ _ => none
  | n + 1 => b_X9_countHoles_4 (f_X9_countHoles_4 n)
set_option maxRecDepth 100000 in
set_option maxHeartbeats 4000000 in
theorem t_X9_countHoles_4 {Γ : gS} {d : Nat} (hd : 2 ≤ d) (n : Nat) : ∀ {x0 : Nat} {x1 : Int32} {x2 : Int32} {x3 : Int32} {h : aH} {r : Int32} {h' : aH}, f_X9_countHoles_4 n x0 x1 x2 x3 h = some (r, h') → Ex Γ gX9_countHoles d 4 [(0, .ref x0), (1, .int x1), (2, .int x2), (3, .int x3)] [] h (some (.int r)) h' := by
  induction n with
  | zero => intro x0 x1 x2 x3 h r h' H; cases H
  | succ n ih => intro x0 x1 x2 x3 h r h' H; exact tb_X9_countHoles_4 hd ih H
def f_X9_countHoles (x0 : Nat) (x1 : Int32) (h : aH) : Option (Int32 × aH) :=
  f_X9_countHoles_4 FU x0 x1 0 0 h
set_option maxRecDepth 100000 in
set_option maxHeartbeats 4000000 in
theorem t_X9_countHoles {Γ : gS} {d : Nat} (hd : 2 ≤ d) {x0 : Nat} {x1 : Int32} {h : aH} {r : Int32} {h' : aH} (H : f_X9_countHoles x0 x1 h = some (r, h')) : Mx Γ gX9_countHoles d [.ref x0, .int x1] h (some (.int r)) h' := by
  refine Mx.of (by decide +kernel) (Nat.le_of_ble_eq_true rfl) ?_
  unfold f_X9_countHoles at H
  show Ex Γ gX9_countHoles d 0 [(0, .ref x0), (1, .int x1)] [] h (some (.int r)) h'
  obtain ⟨d, rfl⟩ : ∃ e, d = e + 1 := ⟨d - 1, by omega⟩
  refine x_iconst (v := 0) dX9_countHoles_0 (by decide) ?_
  refine x_istore_n (lv' := [(2, .int 0), (0, .ref x0), (1, .int x1)]) dX9_countHoles_1 rfl (by decide) rfl rfl ?_
  refine x_iconst (v := 0) dX9_countHoles_2 (by decide) ?_
  refine x_istore_n (lv' := [(3, .int 0), (2, .int 0), (0, .ref x0), (1, .int x1)]) dX9_countHoles_3 rfl (by decide) rfl rfl ?_
  refine Ex.sub [2, 3, 1, 0] rfl ?_
  exact t_X9_countHoles_4 hd FU H
def b_X9_longestHole_4 (k4 : Nat → Int32 → Int32 → Int32 → aH → Option (Int32 × aH)) (x0 : Nat) (x1 : Int32) (x2 : Int32) (x3 : Int32) (h : aH) : Option (Int32 × aH) :=
  ko h x0 9 <|
  if (hI h x0 6) < x3 then
    some (x2, h)
  else
    bd (f_X9_gapLength x0 x3 x1 h) fun v3 h4 =>
    bd (f_J9_max_7cf53 x2 v3 h4) fun v6 h7 =>
    nm (x3 + 1) fun (v9 : Int32) =>
    k4 x0 x1 v6 v9 h7
set_option maxRecDepth 100000 in
set_option maxHeartbeats 4000000 in
theorem tb_X9_longestHole_4 {Γ : gS} {d : Nat} (hd : 2 ≤ d) {k4 : Nat → Int32 → Int32 → Int32 → aH → Option (Int32 × aH)} (hk4 : ∀ {x0 : Nat} {x1 : Int32} {x2 : Int32} {x3 : Int32} {h : aH} {r : Int32} {h' : aH}, k4 x0 x1 x2 x3 h = some (r, h') → Ex Γ gX9_longestHole d 4 [(0, .ref x0), (1, .int x1), (2, .int x2), (3, .int x3)] [] h (some (.int r)) h') {x0 : Nat} {x1 : Int32} {x2 : Int32} {x3 : Int32} {h : aH} {r : Int32} {h' : aH} (H : b_X9_longestHole_4 k4 x0 x1 x2 x3 h = some (r, h')) : Ex Γ gX9_longestHole d 4 [(0, .ref x0), (1, .int x1), (2, .int x2), (3, .int x3)] [] h (some (.int r)) h' := by
  unfold b_X9_longestHole_4 at H
  obtain ⟨d, rfl⟩ : ∃ e, d = e + 1 := ⟨d - 1, by omega⟩
  refine x_iload_n dX9_longestHole_4 rfl 3 rfl ?_
  refine x_aload_n dX9_longestHole_5 rfl 0 rfl ?_
  obtain ⟨c1, H⟩ := ko_o H
  refine x_getI fr_X9_33 dX9_longestHole_6 c1 rfl ?_
  refine x_icmp_gt (tgt := 29) dX9_longestHole_9 (by decide) (fun c2 => ?_) (fun c2 => ?_)
  · replace H := ite_p H c2
    refine x_iload_n dX9_longestHole_29 rfl 2 rfl ?_
    obtain ⟨rfl, rfl⟩ := so_1 H
    exact x_iret dX9_longestHole_30 rfl rfl
  · replace H := ite_m H c2
    refine x_iload_n dX9_longestHole_12 rfl 2 rfl ?_
    refine x_aload_n dX9_longestHole_13 rfl 0 rfl ?_
    refine x_iload_n dX9_longestHole_14 rfl 3 rfl ?_
    refine x_iload_n dX9_longestHole_15 rfl 1 rfl ?_
    obtain ⟨v3, h4, hc5, H⟩ := bd_o H
    refine x_callVi (As := [.int x3, .int x1]) (q := (RX9, TX9, 8)) dX9_longestHole_16 mi_X9_gapLength lk_X9_69 im_X9_gapLength se_X9_gapLength rfl c1 rfl rfl (Nat.le_of_ble_eq_true rfl) (t_X9_gapLength (by omega) hc5) ?_
    obtain ⟨v6, h7, hc8, H⟩ := bd_o H
    refine x_callSi (As := [.int x2, .int v3]) dX9_longestHole_19 mi_J9_max_7cf53 lk_X9_73 sm_J9_max_7cf53 rfl rfl (Nat.le_of_ble_eq_true rfl) (t_J9_max_7cf53 (by omega) hc8) ?_
    refine x_istore_n (lv' := [(2, .int v6), (0, .ref x0), (1, .int x1), (3, .int x3)]) dX9_longestHole_22 rfl (by decide) rfl rfl ?_
    obtain ⟨v9, ev9, H⟩ := nm_o H
    refine x_iinc (v := v9) (lv' := [(3, .int v9), (2, .int v6), (0, .ref x0), (1, .int x1)]) dX9_longestHole_23 3 rfl (by decide) ev9 rfl ?_
    refine x_goto (tgt := 4) dX9_longestHole_26 (by decide) ?_
    refine Ex.sub [2, 3, 1, 0] rfl ?_
    exact hk4 H
def f_X9_longestHole_4 : Nat → Nat → Int32 → Int32 → Int32 → aH → Option (Int32 × aH)
  | 0 => fun _ _ _ _ _ => none
  | n + 1 => b_X9_longestHole_4 (f_X9_longestHole_4 n)
set_option maxRecDepth 100000 in
set_option maxHeartbeats 4000000 in
theorem t_X9_longestHole_4 {Γ : gS} {d : Nat} (hd : 2 ≤ d) (n : Nat) : ∀ {x0 : Nat} {x1 : Int32} {x2 : Int32} {x3 : Int32} {h : aH} {r : Int32} {h' : aH}, f_X9_longestHole_4 n x0 x1 x2 x3 h = some (r, h') → Ex Γ gX9_longestHole d 4 [(0, .ref x0), (1, .int x1), (2, .int x2), (3, .int x3)] [] h (some (.int r)) h' := by
  induction n with
  | zero => intro x0 x1 x2 x3 h r h' H; cases H
  | succ n ih => intro x0 x1 x2 x3 h r h' H; exact tb_X9_longestHole_4 hd ih H
def f_X9_longestHole (x0 : Nat) (x1 : Int32) (h : aH) : Option (Int32 × aH) :=
  f_X9_longestHole_4 FU x0 x1 0 0 h
set_option maxRecDepth 100000 in
set_option maxHeartbeats 4000000 in
theorem t_X9_longestHole {Γ : gS} {d : Nat} (hd : 2 ≤ d) {x0 : Nat} {x1 : Int32} {h : aH} {r : Int32} {h' : aH} (H : f_X9_longestHole x0 x1 h = some (r, h')) : Mx Γ gX9_longestHole d [.ref x0, .int x1] h (some (.int r)) h' := by
  refine Mx.of (by decide +kernel) (Nat.le_of_ble_eq_true rfl) ?_
  unfold f_X9_longestHole at H
  show Ex Γ gX9_longestHole d 0 [(0, .ref x0), (1, .int x1)] [] h (some (.int r)) h'
  obtain ⟨d, rfl⟩ : ∃ e, d = e + 1 := ⟨d - 1, by omega⟩
  refine x_iconst (v := 0) dX9_longestHole_0 (by decide) ?_
  refine x_istore_n (lv' := [(2, .int 0), (0, .ref x0), (1, .int x1)]) dX9_longestHole_1 rfl (by decide) rfl rfl ?_
  refine x_iconst (v := 0) dX9_longestHole_2 (by decide) ?_
  refine x_istore_n (lv' := [(3, .int 0), (2, .int 0), (0, .ref x0), (1, .int x1)]) dX9_longestHole_3 rfl (by decide) rfl rfl ?_
  refine Ex.sub [2, 3, 1, 0] rfl ?_
  exact t_X9_longestHole_4 hd FU H
def f_X9_addObject_21 (h : aH) : Option (Unit × aH) :=
  some ((), h)
set_option maxRecDepth 100000 in
set_option maxHeartbeats 4000000 in
theorem t_X9_addObject_21 {Γ : gS} {d : Nat} (hd : 2 ≤ d) {h : aH} {r : Unit} {h' : aH} (H : f_X9_addObject_21 h = some (r, h')) : Ex Γ gX9_addObject d 21 [] [] h none h' := by
  unfold f_X9_addObject_21 at H
  obtain ⟨d, rfl⟩ : ∃ e, d = e + 1 := ⟨d - 1, by omega⟩
  obtain ⟨-, rfl⟩ := so_1 H
  exact x_vret dX9_addObject_21 rfl
def f_X9_addObject (x0 : Nat) (x1 : Int32) (x2 : Int32) (x3 : Int32) (x4 : Int32) (h : aH) : Option (Unit × aH) :=
  ko h x0 9 <|
  if 32 ≤ (hI h x0 6) then
    f_X9_addObject_21 h
  else
    if x1 < 0 then
      f_X9_addObject_21 h
    else
      if x1 ≤ (hI h x0 6) then
        kr (hR h x0 1) fun a5 =>
        ka h a5 .int fun n8 =>
        chk (¬ x1 < 0 ∧ ¬ (x1 + 1 : Int32) < 0 ∧ ¬ ((hI h x0 6) - x1 : Int32) < 0 ∧ x1.toNatClampNeg + ((hI h x0 6) - x1 : Int32).toNatClampNeg ≤ n8 ∧ (x1 + 1 : Int32).toNatClampNeg + ((hI h x0 6) - x1 : Int32).toNatClampNeg ≤ n8) <|
        nm (acp h a5 x1.toNatClampNeg a5 (x1 + 1 : Int32).toNatClampNeg ((hI h x0 6) - x1 : Int32).toNatClampNeg) fun (h10 : aH) =>
        ko h10 x0 9 <|
        kr (hR h10 x0 2) fun a12 =>
        ka h10 a12 .int fun n15 =>
        chk (¬ x1 < 0 ∧ ¬ (x1 + 1 : Int32) < 0 ∧ ¬ ((hI h10 x0 6) - x1 : Int32) < 0 ∧ x1.toNatClampNeg + ((hI h10 x0 6) - x1 : Int32).toNatClampNeg ≤ n15 ∧ (x1 + 1 : Int32).toNatClampNeg + ((hI h10 x0 6) - x1 : Int32).toNatClampNeg ≤ n15) <|
        nm (acp h10 a12 x1.toNatClampNeg a12 (x1 + 1 : Int32).toNatClampNeg ((hI h10 x0 6) - x1 : Int32).toNatClampNeg) fun (h17 : aH) =>
        ko h17 x0 9 <|
        kr (hR h17 x0 3) fun a19 =>
        ka h17 a19 .int fun n22 =>
        chk (¬ x1 < 0 ∧ ¬ (x1 + 1 : Int32) < 0 ∧ ¬ ((hI h17 x0 6) - x1 : Int32) < 0 ∧ x1.toNatClampNeg + ((hI h17 x0 6) - x1 : Int32).toNatClampNeg ≤ n22 ∧ (x1 + 1 : Int32).toNatClampNeg + ((hI h17 x0 6) - x1 : Int32).toNatClampNeg ≤ n22) <|
        nm (acp h17 a19 x1.toNatClampNeg a19 (x1 + 1 : Int32).toNatClampNeg ((hI h17 x0 6) - x1 : Int32).toNatClampNeg) fun (h24 : aH) =>
        ko h24 x0 9 <|
        kr (hR h24 x0 1) fun a26 =>
        ka h24 a26 .int fun n29 =>
        chk (inb x1 n29 = true) <|
        kr (hR h24 x0 2) fun a31 =>
        ka h24 a31 .int fun n34 =>
        chk (inb x1 n34 = true) <|
        kr (hR h24 x0 3) fun a36 =>
        ka h24 a36 .int fun n39 =>
        chk (inb x1 n39 = true) <|
        bd (f_X9_note x0 0 x2 x3 (sI (sI (sI (sI h24 x0 6 ((hI h24 x0 6) + 1)) a26 x1.toNatClampNeg x2) a31 x1.toNatClampNeg x3) a36 x1.toNatClampNeg x4)) fun _ h42 =>
        some ((), h42)
      else
        f_X9_addObject_21 h
set_option maxRecDepth 100000 in
set_option maxHeartbeats 4000000 in
theorem t_X9_addObject {Γ : gS} {d : Nat} (hd : 2 ≤ d) {x0 : Nat} {x1 : Int32} {x2 : Int32} {x3 : Int32} {x4 : Int32} {h : aH} {r : Unit} {h' : aH} (H : f_X9_addObject x0 x1 x2 x3 x4 h = some (r, h')) : Mx Γ gX9_addObject d [.ref x0, .int x1, .int x2, .int x3, .int x4] h none h' := by
  refine Mx.of (by decide +kernel) (Nat.le_of_ble_eq_true rfl) ?_
  unfold f_X9_addObject at H
  show Ex Γ gX9_addObject d 0 [(0, .ref x0), (1, .int x1), (2, .int x2), (3, .int x3), (4, .int x4)] [] h none h'
  obtain ⟨d, rfl⟩ : ∃ e, d = e + 1 := ⟨d - 1, by omega⟩
  refine x_aload_n dX9_addObject_0 rfl 0 rfl ?_
  obtain ⟨c1, H⟩ := ko_o H
  refine x_getI fr_X9_33 dX9_addObject_1 c1 rfl ?_
  refine x_bipush (v := 32) dX9_addObject_4 (by decide) ?_
  refine x_icmp_ge (tgt := 21) dX9_addObject_6 (by decide) (fun c2 => ?_) (fun c2 => ?_)
  · replace H := ite_p H c2
    refine Ex.sub [] rfl ?_
    exact t_X9_addObject_21 hd H
  · replace H := ite_m H c2
    refine x_iload_n dX9_addObject_9 rfl 1 rfl ?_
    refine x_if_lt (tgt := 21) dX9_addObject_10 (by decide) (fun c3 => ?_) (fun c3 => ?_)
    · replace H := ite_p H c3
      refine Ex.sub [] rfl ?_
      exact t_X9_addObject_21 hd H
    · replace H := ite_m H c3
      refine x_iload_n dX9_addObject_13 rfl 1 rfl ?_
      refine x_aload_n dX9_addObject_14 rfl 0 rfl ?_
      refine x_getI fr_X9_33 dX9_addObject_15 c1 rfl ?_
      refine x_icmp_le (tgt := 22) dX9_addObject_18 (by decide) (fun c4 => ?_) (fun c4 => ?_)
      · replace H := ite_p H c4
        refine x_aload_n dX9_addObject_22 rfl 0 rfl ?_
        obtain ⟨a5, c6, H⟩ := kr_o H
        refine x_getR fr_X9_17 dX9_addObject_23 c1 rfl c6 ?_
        refine x_iload_n dX9_addObject_26 rfl 1 rfl ?_
        refine x_aload_n dX9_addObject_27 rfl 0 rfl ?_
        refine x_getR fr_X9_17 dX9_addObject_28 c1 rfl c6 ?_
        refine x_iload_n dX9_addObject_31 rfl 1 rfl ?_
        refine x_iconst (v := 1) dX9_addObject_32 (by decide) ?_
        refine x_iadd dX9_addObject_33 ?_
        refine x_aload_n dX9_addObject_34 rfl 0 rfl ?_
        refine x_getI fr_X9_33 dX9_addObject_35 c1 rfl ?_
        refine x_iload_n dX9_addObject_38 rfl 1 rfl ?_
        refine x_isub dX9_addObject_39 ?_
        obtain ⟨n8, c7, H⟩ := ka_o H
        obtain ⟨⟨c91, c92, c93, c94, c95⟩, H⟩ := chk_o H
        obtain ⟨h10, eh10, H⟩ := nm_o H
        refine x_acopy dX9_addObject_40 lk_X9_55 na_acp sm_acp ii_J10 c7 c7 c91 c92 c93 c94 c95 (Nat.le_of_ble_eq_true rfl) ?_
        refine Ex.ren eh10 ?_
        refine x_aload_n dX9_addObject_43 rfl 0 rfl ?_
        obtain ⟨c11, H⟩ := ko_o H
        obtain ⟨a12, c13, H⟩ := kr_o H
        refine x_getR fr_X9_21 dX9_addObject_44 c11 rfl c13 ?_
        refine x_iload_n dX9_addObject_47 rfl 1 rfl ?_
        refine x_aload_n dX9_addObject_48 rfl 0 rfl ?_
        refine x_getR fr_X9_21 dX9_addObject_49 c11 rfl c13 ?_
        refine x_iload_n dX9_addObject_52 rfl 1 rfl ?_
        refine x_iconst (v := 1) dX9_addObject_53 (by decide) ?_
        refine x_iadd dX9_addObject_54 ?_
        refine x_aload_n dX9_addObject_55 rfl 0 rfl ?_
        refine x_getI fr_X9_33 dX9_addObject_56 c11 rfl ?_
        refine x_iload_n dX9_addObject_59 rfl 1 rfl ?_
        refine x_isub dX9_addObject_60 ?_
        obtain ⟨n15, c14, H⟩ := ka_o H
        obtain ⟨⟨c161, c162, c163, c164, c165⟩, H⟩ := chk_o H
        obtain ⟨h17, eh17, H⟩ := nm_o H
        refine x_acopy dX9_addObject_61 lk_X9_55 na_acp sm_acp ii_J10 c14 c14 c161 c162 c163 c164 c165 (Nat.le_of_ble_eq_true rfl) ?_
        refine Ex.ren eh17 ?_
        refine x_aload_n dX9_addObject_64 rfl 0 rfl ?_
        obtain ⟨c18, H⟩ := ko_o H
        obtain ⟨a19, c20, H⟩ := kr_o H
        refine x_getR fr_X9_24 dX9_addObject_65 c18 rfl c20 ?_
        refine x_iload_n dX9_addObject_68 rfl 1 rfl ?_
        refine x_aload_n dX9_addObject_69 rfl 0 rfl ?_
        refine x_getR fr_X9_24 dX9_addObject_70 c18 rfl c20 ?_
        refine x_iload_n dX9_addObject_73 rfl 1 rfl ?_
        refine x_iconst (v := 1) dX9_addObject_74 (by decide) ?_
        refine x_iadd dX9_addObject_75 ?_
        refine x_aload_n dX9_addObject_76 rfl 0 rfl ?_
        refine x_getI fr_X9_33 dX9_addObject_77 c18 rfl ?_
        refine x_iload_n dX9_addObject_80 rfl 1 rfl ?_
        refine x_isub dX9_addObject_81 ?_
        obtain ⟨n22, c21, H⟩ := ka_o H
        obtain ⟨⟨c231, c232, c233, c234, c235⟩, H⟩ := chk_o H
        obtain ⟨h24, eh24, H⟩ := nm_o H
        refine x_acopy dX9_addObject_82 lk_X9_55 na_acp sm_acp ii_J10 c21 c21 c231 c232 c233 c234 c235 (Nat.le_of_ble_eq_true rfl) ?_
        refine Ex.ren eh24 ?_
        refine x_aload_n dX9_addObject_85 rfl 0 rfl ?_
        refine x_dup dX9_addObject_86 rfl ?_
        obtain ⟨c25, H⟩ := ko_o H
        refine x_getI fr_X9_33 dX9_addObject_87 c25 rfl ?_
        refine x_iconst (v := 1) dX9_addObject_90 (by decide) ?_
        refine x_iadd dX9_addObject_91 ?_
        refine x_putI fl_X9_33 dX9_addObject_92 c25 (fun e => by cases e) rfl ?_
        refine x_aload_n dX9_addObject_95 rfl 0 rfl ?_
        obtain ⟨a26, c27, H⟩ := kr_o H
        refine x_getR fr_X9_17 dX9_addObject_96 c25 rfl c27 ?_
        refine x_iload_n dX9_addObject_99 rfl 1 rfl ?_
        refine x_iload_n dX9_addObject_100 rfl 2 rfl ?_
        obtain ⟨n29, c28, H⟩ := ka_o H
        obtain ⟨c30, H⟩ := chk_o H
        refine x_iast dX9_addObject_101 c28 (inb_in.mp c30) ?_
        refine x_aload_n dX9_addObject_102 rfl 0 rfl ?_
        obtain ⟨a31, c32, H⟩ := kr_o H
        refine x_getR fr_X9_21 dX9_addObject_103 c25 rfl c32 ?_
        refine x_iload_n dX9_addObject_106 rfl 1 rfl ?_
        refine x_iload_n dX9_addObject_107 rfl 3 rfl ?_
        obtain ⟨n34, c33, H⟩ := ka_o H
        obtain ⟨c35, H⟩ := chk_o H
        refine x_iast dX9_addObject_108 c33 (inb_in.mp c35) ?_
        refine x_aload_n dX9_addObject_109 rfl 0 rfl ?_
        obtain ⟨a36, c37, H⟩ := kr_o H
        refine x_getR fr_X9_24 dX9_addObject_110 c25 rfl c37 ?_
        refine x_iload_n dX9_addObject_113 rfl 1 rfl ?_
        refine x_iload dX9_addObject_114 4 rfl ?_
        obtain ⟨n39, c38, H⟩ := ka_o H
        obtain ⟨c40, H⟩ := chk_o H
        refine x_iast dX9_addObject_116 c38 (inb_in.mp c40) ?_
        refine x_aload_n dX9_addObject_117 rfl 0 rfl ?_
        refine x_iconst (v := 0) dX9_addObject_118 (by decide) ?_
        refine x_iload_n dX9_addObject_119 rfl 2 rfl ?_
        refine x_iload_n dX9_addObject_120 rfl 3 rfl ?_
        obtain ⟨v41, h42, hc43, H⟩ := bd_o H
        refine x_callVv (As := [.int 0, .int x2, .int x3]) (q := (RX9, TX9, 8)) dX9_addObject_121 mi_X9_note lk_X9_78 im_X9_note se_X9_note rfl c25 rfl rfl (Nat.le_of_ble_eq_true rfl) (t_X9_note (by omega) hc43) ?_
        obtain ⟨-, rfl⟩ := so_1 H
        exact x_vret dX9_addObject_124 rfl
      · replace H := ite_m H c4
        refine Ex.sub [] rfl ?_
        exact t_X9_addObject_21 hd H
def f_X9_removeObject_12 (h : aH) : Option (Unit × aH) :=
  some ((), h)
set_option maxRecDepth 100000 in
set_option maxHeartbeats 4000000 in
theorem t_X9_removeObject_12 {Γ : gS} {d : Nat} (hd : 2 ≤ d) {h : aH} {r : Unit} {h' : aH} (H : f_X9_removeObject_12 h = some (r, h')) : Ex Γ gX9_removeObject d 12 [] [] h none h' := by
  unfold f_X9_removeObject_12 at H
  obtain ⟨d, rfl⟩ : ∃ e, d = e + 1 := ⟨d - 1, by omega⟩
  obtain ⟨-, rfl⟩ := so_1 H
  exact x_vret dX9_removeObject_12 rfl
def f_X9_removeObject_175 (k129 : Nat → Int32 → Int32 → Int32 → Int32 → aH → Option (Unit × aH)) (x0 : Nat) (x2 : Int32) (x3 : Int32) (x4 : Int32) (x5 : Int32) (h : aH) : Option (Unit × aH) :=
  nm (x5 + 1) fun (v1 : Int32) =>
  k129 x0 x2 x3 x4 v1 h
set_option maxRecDepth 100000 in
set_option maxHeartbeats 4000000 in
theorem t_X9_removeObject_175 {Γ : gS} {d : Nat} (hd : 2 ≤ d) {k129 : Nat → Int32 → Int32 → Int32 → Int32 → aH → Option (Unit × aH)} (hk129 : ∀ {x0 : Nat} {x2 : Int32} {x3 : Int32} {x4 : Int32} {x5 : Int32} {h : aH} {r : Unit} {h' : aH}, k129 x0 x2 x3 x4 x5 h = some (r, h') → Ex Γ gX9_removeObject d 129 [(0, .ref x0), (2, .int x2), (3, .int x3), (4, .int x4), (5, .int x5)] [] h none h') {x0 : Nat} {x2 : Int32} {x3 : Int32} {x4 : Int32} {x5 : Int32} {h : aH} {r : Unit} {h' : aH} (H : f_X9_removeObject_175 k129 x0 x2 x3 x4 x5 h = some (r, h')) : Ex Γ gX9_removeObject d 175 [(0, .ref x0), (2, .int x2), (3, .int x3), (4, .int x4), (5, .int x5)] [] h none h' := by
  unfold f_X9_removeObject_175 at H
  obtain ⟨d, rfl⟩ : ∃ e, d = e + 1 := ⟨d - 1, by omega⟩
  obtain ⟨v1, ev1, H⟩ := nm_o H
  refine x_iinc (v := v1) (lv' := [(5, .int v1), (0, .ref x0), (2, .int x2), (3, .int x3), (4, .int x4)]) dX9_removeObject_175 4 rfl (by decide) ev1 rfl ?_
  refine x_goto (tgt := 129) dX9_removeObject_178 (by decide) ?_
  refine Ex.sub [1, 2, 3, 4, 0] rfl ?_
  exact hk129 H
def b_X9_removeObject_129 (k129 : Nat → Int32 → Int32 → Int32 → Int32 → aH → Option (Unit × aH)) (x0 : Nat) (x2 : Int32) (x3 : Int32) (x4 : Int32) (x5 : Int32) (h : aH) : Option (Unit × aH) :=
  if 32 ≤ x5 then
    ko h x0 9 <|
    bd (f_X9_note x0 1 x3 x4 h) fun _ h4 =>
    some ((), h4)
  else
    ko h x0 9 <|
    kr (hR h x0 0) fun a8 =>
    ka h a8 (.object RX6) fun n11 =>
    chk (inb x5 n11 = true) <|
    kr (hR h a8 x5.toNatClampNeg) fun a13 =>
    ko h a13 6 <|
    bd (f_X6_base a13 x2 h) fun v15 h16 =>
    if v15 < x3 then
      f_X9_removeObject_175 k129 x0 x2 x3 x4 x5 h16
    else
      if (x3 + x4) ≤ v15 then
        f_X9_removeObject_175 k129 x0 x2 x3 x4 x5 h16
      else
        ko h16 x0 9 <|
        kr (hR h16 x0 0) fun a21 =>
        ka h16 a21 (.object RX6) fun n24 =>
        chk (inb x5 n24 = true) <|
        kr (hR h16 a21 x5.toNatClampNeg) fun a26 =>
        ko h16 a26 6 <|
        f_X9_removeObject_175 k129 x0 x2 x3 x4 x5 (sI h16 a26 1 0)
set_option maxRecDepth 100000 in
set_option maxHeartbeats 4000000 in
theorem tb_X9_removeObject_129 {Γ : gS} {d : Nat} (hd : 2 ≤ d) {k129 : Nat → Int32 → Int32 → Int32 → Int32 → aH → Option (Unit × aH)} (hk129 : ∀ {x0 : Nat} {x2 : Int32} {x3 : Int32} {x4 : Int32} {x5 : Int32} {h : aH} {r : Unit} {h' : aH}, k129 x0 x2 x3 x4 x5 h = some (r, h') → Ex Γ gX9_removeObject d 129 [(0, .ref x0), (2, .int x2), (3, .int x3), (4, .int x4), (5, .int x5)] [] h none h') {x0 : Nat} {x2 : Int32} {x3 : Int32} {x4 : Int32} {x5 : Int32} {h : aH} {r : Unit} {h' : aH} (H : b_X9_removeObject_129 k129 x0 x2 x3 x4 x5 h = some (r, h')) : Ex Γ gX9_removeObject d 129 [(0, .ref x0), (2, .int x2), (3, .int x3), (4, .int x4), (5, .int x5)] [] h none h' := by
  unfold b_X9_removeObject_129 at H
  obtain ⟨d, rfl⟩ : ∃ e, d = e + 1 := ⟨d - 1, by omega⟩
  refine x_iload dX9_removeObject_129 4 rfl ?_
  refine x_bipush (v := 32) dX9_removeObject_131 (by decide) ?_
  refine x_icmp_ge (tgt := 181) dX9_removeObject_133 (by decide) (fun c2 => ?_) (fun c2 => ?_)
  · replace H := ite_p H c2
    refine x_aload_n dX9_removeObject_181 rfl 0 rfl ?_
    refine x_iconst (v := 1) dX9_removeObject_182 (by decide) ?_
    refine x_iload_n dX9_removeObject_183 rfl 2 rfl ?_
    refine x_iload dX9_removeObject_184 3 rfl ?_
    obtain ⟨c6, H⟩ := ko_o H
    obtain ⟨v3, h4, hc5, H⟩ := bd_o H
    refine x_callVv (As := [.int 1, .int x3, .int x4]) (q := (RX9, TX9, 8)) dX9_removeObject_186 mi_X9_note lk_X9_78 im_X9_note se_X9_note rfl c6 rfl rfl (Nat.le_of_ble_eq_true rfl) (t_X9_note (by omega) hc5) ?_
    obtain ⟨-, rfl⟩ := so_1 H
    exact x_vret dX9_removeObject_189 rfl
  · replace H := ite_m H c2
    refine x_aload_n dX9_removeObject_136 rfl 0 rfl ?_
    obtain ⟨c7, H⟩ := ko_o H
    obtain ⟨a8, c9, H⟩ := kr_o H
    refine x_getR fr_X9_13 dX9_removeObject_137 c7 rfl c9 ?_
    refine x_iload dX9_removeObject_140 4 rfl ?_
    obtain ⟨n11, c10, H⟩ := ka_o H
    obtain ⟨c12, H⟩ := chk_o H
    obtain ⟨a13, c14, H⟩ := kr_o H
    refine x_aald dX9_removeObject_142 c10 (by decide) (inb_in.mp c12) c14 ?_
    refine x_iload_n dX9_removeObject_143 rfl 1 rfl ?_
    obtain ⟨c29, H⟩ := ko_o H
    obtain ⟨v15, h16, hc17, H⟩ := bd_o H
    refine x_callVi (As := [.int x2]) (q := (RX6, TX6, 8)) dX9_removeObject_144 mi_X6_base lk_X9_86 im_X6_base se_X6_base rfl c29 rfl rfl (Nat.le_of_ble_eq_true rfl) (t_X6_base (by omega) hc17) ?_
    refine x_istore (lv' := [(6, .int v15), (0, .ref x0), (2, .int x2), (3, .int x3), (4, .int x4), (5, .int x5)]) dX9_removeObject_147 (by decide) rfl rfl ?_
    refine x_iload dX9_removeObject_149 0 rfl ?_
    refine x_iload_n dX9_removeObject_151 rfl 3 rfl ?_
    refine x_icmp_lt (tgt := 175) dX9_removeObject_152 (by decide) (fun c18 => ?_) (fun c18 => ?_)
    · replace H := ite_p H c18
      refine Ex.sub [1, 2, 3, 4, 5] rfl ?_
      exact t_X9_removeObject_175 hd hk129 H
    · replace H := ite_m H c18
      refine x_iload dX9_removeObject_155 0 rfl ?_
      refine x_iload_n dX9_removeObject_157 rfl 3 rfl ?_
      refine x_iload dX9_removeObject_158 4 rfl ?_
      refine x_iadd dX9_removeObject_160 ?_
      refine x_icmp_ge (tgt := 175) dX9_removeObject_161 (by decide) (fun c19 => ?_) (fun c19 => ?_)
      · replace H := ite_p H c19
        refine Ex.sub [1, 2, 3, 4, 5] rfl ?_
        exact t_X9_removeObject_175 hd hk129 H
      · replace H := ite_m H c19
        refine x_aload_n dX9_removeObject_164 rfl 1 rfl ?_
        obtain ⟨c20, H⟩ := ko_o H
        obtain ⟨a21, c22, H⟩ := kr_o H
        refine x_getR fr_X9_13 dX9_removeObject_165 c20 rfl c22 ?_
        refine x_iload dX9_removeObject_168 5 rfl ?_
        obtain ⟨n24, c23, H⟩ := ka_o H
        obtain ⟨c25, H⟩ := chk_o H
        obtain ⟨a26, c27, H⟩ := kr_o H
        refine x_aald dX9_removeObject_170 c23 (by decide) (inb_in.mp c25) c27 ?_
        refine x_iconst (v := 0) dX9_removeObject_171 (by decide) ?_
        obtain ⟨c28, H⟩ := ko_o H
        refine x_putZ fl_X9_61 dX9_removeObject_172 c28 (fun e => by cases e) rfl (by decide) ?_
        refine Ex.sub [1, 2, 3, 4, 5] rfl ?_
        exact t_X9_removeObject_175 hd hk129 H
def f_X9_removeObject_129 : Nat → Nat → Int32 → Int32 → Int32 → Int32 → aH → Option (Unit × aH)
  | 0 => fun _ _ _ _ _ _ => none
  | n + 1 => b_X9_removeObject_129 (f_X9_removeObject_129 n)
set_option maxRecDepth 100000 in
set_option maxHeartbeats 4000000 in
theorem t_X9_removeObject_129 {Γ : gS} {d : Nat} (hd : 2 ≤ d) (n : Nat) : ∀ {x0 : Nat} {x2 : Int32} {x3 : Int32} {x4 : Int32} {x5 : Int32} {h : aH} {r : Unit} {h' : aH}, f_X9_removeObject_129 n x0 x2 x3 x4 x5 h = some (r, h') → Ex Γ gX9_removeObject d 129 [(0, .ref x0), (2, .int x2), (3, .int x3), (4, .int x4), (5, .int x5)] [] h none h' := by
  induction n with
  | zero => intro x0 x2 x3 x4 x5 h r h' H; cases H
  | succ n ih => intro x0 x2 x3 x4 x5 h r h' H; exact tb_X9_removeObject_129 hd ih H
def b_X9_removeObject_104 (k104 : Nat → Int32 → Int32 → Int32 → Int32 → aH → Option (Unit × aH)) (x0 : Nat) (x2 : Int32) (x3 : Int32) (x4 : Int32) (x5 : Int32) (h : aH) : Option (Unit × aH) :=
  if x4 ≤ x5 then
    f_X9_removeObject_129 FU x0 x2 x3 x4 0 h
  else
    ko h x0 9 <|
    bd (f_X9_setByte x0 (x3 + x5) 0 h) fun _ h32 =>
    nm (x5 + 1) fun (v34 : Int32) =>
    k104 x0 x2 x3 x4 v34 h32
set_option maxRecDepth 100000 in
set_option maxHeartbeats 4000000 in
theorem tb_X9_removeObject_104 {Γ : gS} {d : Nat} (hd : 2 ≤ d) {k104 : Nat → Int32 → Int32 → Int32 → Int32 → aH → Option (Unit × aH)} (hk104 : ∀ {x0 : Nat} {x2 : Int32} {x3 : Int32} {x4 : Int32} {x5 : Int32} {h : aH} {r : Unit} {h' : aH}, k104 x0 x2 x3 x4 x5 h = some (r, h') → Ex Γ gX9_removeObject d 104 [(0, .ref x0), (2, .int x2), (3, .int x3), (4, .int x4), (5, .int x5)] [] h none h') {x0 : Nat} {x2 : Int32} {x3 : Int32} {x4 : Int32} {x5 : Int32} {h : aH} {r : Unit} {h' : aH} (H : b_X9_removeObject_104 k104 x0 x2 x3 x4 x5 h = some (r, h')) : Ex Γ gX9_removeObject d 104 [(0, .ref x0), (2, .int x2), (3, .int x3), (4, .int x4), (5, .int x5)] [] h none h' := by
  unfold b_X9_removeObject_104 at H
  obtain ⟨d, rfl⟩ : ∃ e, d = e + 1 := ⟨d - 1, by omega⟩
  refine x_iload dX9_removeObject_104 4 rfl ?_
  refine x_iload dX9_removeObject_106 3 rfl ?_
  refine x_icmp_ge (tgt := 126) dX9_removeObject_108 (by decide) (fun c30 => ?_) (fun c30 => ?_)
  · replace H := ite_p H c30
    refine x_iconst (v := 0) dX9_removeObject_126 (by decide) ?_
    refine x_istore (lv' := [(5, .int 0), (0, .ref x0), (2, .int x2), (3, .int x3), (4, .int x4)]) dX9_removeObject_127 (by decide) rfl rfl ?_
    refine Ex.sub [1, 2, 3, 4, 0] rfl ?_
    exact t_X9_removeObject_129 hd FU H
  · replace H := ite_m H c30
    refine x_aload_n dX9_removeObject_111 rfl 0 rfl ?_
    refine x_iload_n dX9_removeObject_112 rfl 2 rfl ?_
    refine x_iload dX9_removeObject_113 4 rfl ?_
    refine x_iadd dX9_removeObject_115 ?_
    refine x_iconst (v := 0) dX9_removeObject_116 (by decide) ?_
    obtain ⟨c35, H⟩ := ko_o H
    obtain ⟨v31, h32, hc33, H⟩ := bd_o H
    refine x_callVv (As := [.int (x3 + x5), .int 0]) (q := (RX9, TX9, 8)) dX9_removeObject_117 mi_X9_setByte lk_X9_82 im_X9_setByte se_X9_setByte rfl c35 rfl rfl (Nat.le_of_ble_eq_true rfl) (t_X9_setByte (by omega) hc33) ?_
    obtain ⟨v34, ev34, H⟩ := nm_o H
    refine x_iinc (v := v34) (lv' := [(5, .int v34), (0, .ref x0), (2, .int x2), (3, .int x3), (4, .int x4)]) dX9_removeObject_120 4 rfl (by decide) ev34 rfl ?_
    refine x_goto (tgt := 104) dX9_removeObject_123 (by decide) ?_
    refine Ex.sub [1, 2, 3, 4, 0] rfl ?_
    exact hk104 H
def f_X9_removeObject_104 : Nat → Nat → Int32 → Int32 → Int32 → Int32 → aH → Option (Unit × aH)
  | 0 => fun _ _ _ _ _ _ => none
  | n + 1 => b_X9_removeObject_104 (f_X9_removeObject_104 n)
set_option maxRecDepth 100000 in
set_option maxHeartbeats 4000000 in
theorem t_X9_removeObject_104 {Γ : gS} {d : Nat} (hd : 2 ≤ d) (n : Nat) : ∀ {x0 : Nat} {x2 : Int32} {x3 : Int32} {x4 : Int32} {x5 : Int32} {h : aH} {r : Unit} {h' : aH}, f_X9_removeObject_104 n x0 x2 x3 x4 x5 h = some (r, h') → Ex Γ gX9_removeObject d 104 [(0, .ref x0), (2, .int x2), (3, .int x3), (4, .int x4), (5, .int x5)] [] h none h' := by
  induction n with
  | zero => intro x0 x2 x3 x4 x5 h r h' H; cases H
  | succ n ih => intro x0 x2 x3 x4 x5 h r h' H; exact tb_X9_removeObject_104 hd ih H
def f_X9_removeObject (x0 : Nat) (x1 : Int32) (x2 : Int32) (h : aH) : Option (Unit × aH) :=
  if x1 < 0 then
    f_X9_removeObject_12 h
  else
    ko h x0 9 <|
    if x1 < (hI h x0 6) then
      kr (hR h x0 1) fun a39 =>
      ka h a39 .int fun n42 =>
      chk (inb x1 n42 = true) <|
      nm (hI h a39 x1.toNatClampNeg) fun (v44 : Int32) =>
      kr (hR h x0 2) fun a45 =>
      ka h a45 .int fun n48 =>
      chk (inb x1 n48 = true) <|
      nm (hI h a45 x1.toNatClampNeg) fun (v50 : Int32) =>
      nm (hI (sI h x0 6 ((hI h x0 6) - 1)) x0 6) fun (v51 : Int32) =>
      chk (¬ (x1 + 1 : Int32) < 0 ∧ ¬ x1 < 0 ∧ ¬ (v51 - x1 : Int32) < 0 ∧ (x1 + 1 : Int32).toNatClampNeg + (v51 - x1 : Int32).toNatClampNeg ≤ n42 ∧ x1.toNatClampNeg + (v51 - x1 : Int32).toNatClampNeg ≤ n42) <|
      nm (acp (sI h x0 6 ((hI h x0 6) - 1)) a39 (x1 + 1 : Int32).toNatClampNeg a39 x1.toNatClampNeg (v51 - x1 : Int32).toNatClampNeg) fun (h53 : aH) =>
      ko h53 x0 9 <|
      kr (hR h53 x0 2) fun a55 =>
      ka h53 a55 .int fun n58 =>
      chk (¬ (x1 + 1 : Int32) < 0 ∧ ¬ x1 < 0 ∧ ¬ ((hI h53 x0 6) - x1 : Int32) < 0 ∧ (x1 + 1 : Int32).toNatClampNeg + ((hI h53 x0 6) - x1 : Int32).toNatClampNeg ≤ n58 ∧ x1.toNatClampNeg + ((hI h53 x0 6) - x1 : Int32).toNatClampNeg ≤ n58) <|
      nm (acp h53 a55 (x1 + 1 : Int32).toNatClampNeg a55 x1.toNatClampNeg ((hI h53 x0 6) - x1 : Int32).toNatClampNeg) fun (h60 : aH) =>
      ko h60 x0 9 <|
      kr (hR h60 x0 3) fun a62 =>
      ka h60 a62 .int fun n65 =>
      chk (¬ (x1 + 1 : Int32) < 0 ∧ ¬ x1 < 0 ∧ ¬ ((hI h60 x0 6) - x1 : Int32) < 0 ∧ (x1 + 1 : Int32).toNatClampNeg + ((hI h60 x0 6) - x1 : Int32).toNatClampNeg ≤ n65 ∧ x1.toNatClampNeg + ((hI h60 x0 6) - x1 : Int32).toNatClampNeg ≤ n65) <|
      nm (acp h60 a62 (x1 + 1 : Int32).toNatClampNeg a62 x1.toNatClampNeg ((hI h60 x0 6) - x1 : Int32).toNatClampNeg) fun (h67 : aH) =>
      f_X9_removeObject_104 FU x0 x2 v44 v50 0 h67
    else
      f_X9_removeObject_12 h
set_option maxRecDepth 100000 in
set_option maxHeartbeats 4000000 in
theorem t_X9_removeObject {Γ : gS} {d : Nat} (hd : 2 ≤ d) {x0 : Nat} {x1 : Int32} {x2 : Int32} {h : aH} {r : Unit} {h' : aH} (H : f_X9_removeObject x0 x1 x2 h = some (r, h')) : Mx Γ gX9_removeObject d [.ref x0, .int x1, .int x2] h none h' := by
  refine Mx.of (by decide +kernel) (Nat.le_of_ble_eq_true rfl) ?_
  unfold f_X9_removeObject at H
  show Ex Γ gX9_removeObject d 0 [(0, .ref x0), (1, .int x1), (2, .int x2)] [] h none h'
  obtain ⟨d, rfl⟩ : ∃ e, d = e + 1 := ⟨d - 1, by omega⟩
  refine x_iload_n dX9_removeObject_0 rfl 1 rfl ?_
  refine x_if_lt (tgt := 12) dX9_removeObject_1 (by decide) (fun c36 => ?_) (fun c36 => ?_)
  · replace H := ite_p H c36
    refine Ex.sub [] rfl ?_
    exact t_X9_removeObject_12 hd H
  · replace H := ite_m H c36
    refine x_iload_n dX9_removeObject_4 rfl 1 rfl ?_
    refine x_aload_n dX9_removeObject_5 rfl 0 rfl ?_
    obtain ⟨c37, H⟩ := ko_o H
    refine x_getI fr_X9_33 dX9_removeObject_6 c37 rfl ?_
    refine x_icmp_lt (tgt := 13) dX9_removeObject_9 (by decide) (fun c38 => ?_) (fun c38 => ?_)
    · replace H := ite_p H c38
      refine x_aload_n dX9_removeObject_13 rfl 0 rfl ?_
      obtain ⟨a39, c40, H⟩ := kr_o H
      refine x_getR fr_X9_17 dX9_removeObject_14 c37 rfl c40 ?_
      refine x_iload_n dX9_removeObject_17 rfl 1 rfl ?_
      obtain ⟨n42, c41, H⟩ := ka_o H
      obtain ⟨c43, H⟩ := chk_o H
      refine x_iald dX9_removeObject_18 c41 (inb_in.mp c43) ?_
      obtain ⟨v44, ev44, H⟩ := nm_o H
      refine x_istore_n (lv' := [(3, .int v44), (0, .ref x0), (1, .int x1), (2, .int x2)]) dX9_removeObject_19 rfl (by decide) ev44 rfl ?_
      refine x_aload_n dX9_removeObject_20 rfl 1 rfl ?_
      obtain ⟨a45, c46, H⟩ := kr_o H
      refine x_getR fr_X9_21 dX9_removeObject_21 c37 rfl c46 ?_
      refine x_iload_n dX9_removeObject_24 rfl 2 rfl ?_
      obtain ⟨n48, c47, H⟩ := ka_o H
      obtain ⟨c49, H⟩ := chk_o H
      refine x_iald dX9_removeObject_25 c47 (inb_in.mp c49) ?_
      obtain ⟨v50, ev50, H⟩ := nm_o H
      refine x_istore (lv' := [(4, .int v50), (3, .int v44), (0, .ref x0), (1, .int x1), (2, .int x2)]) dX9_removeObject_26 (by decide) ev50 rfl ?_
      refine x_aload_n dX9_removeObject_28 rfl 2 rfl ?_
      refine x_dup dX9_removeObject_29 rfl ?_
      refine x_getI fr_X9_33 dX9_removeObject_30 c37 rfl ?_
      refine x_iconst (v := 1) dX9_removeObject_33 (by decide) ?_
      refine x_isub dX9_removeObject_34 ?_
      refine x_putI fl_X9_33 dX9_removeObject_35 c37 (fun e => by cases e) rfl ?_
      refine x_aload_n dX9_removeObject_38 rfl 2 rfl ?_
      refine x_getR fr_X9_17 dX9_removeObject_39 c37 rfl c40 ?_
      refine x_iload_n dX9_removeObject_42 rfl 3 rfl ?_
      refine x_iconst (v := 1) dX9_removeObject_43 (by decide) ?_
      refine x_iadd dX9_removeObject_44 ?_
      refine x_aload_n dX9_removeObject_45 rfl 2 rfl ?_
      refine x_getR fr_X9_17 dX9_removeObject_46 c37 rfl c40 ?_
      refine x_iload_n dX9_removeObject_49 rfl 3 rfl ?_
      refine x_aload_n dX9_removeObject_50 rfl 2 rfl ?_
      obtain ⟨v51, ev51, H⟩ := nm_o H
      refine x_getIe fr_X9_33 dX9_removeObject_51 c37 rfl ev51 ?_
      refine x_iload_n dX9_removeObject_54 rfl 3 rfl ?_
      refine x_isub dX9_removeObject_55 ?_
      obtain ⟨⟨c521, c522, c523, c524, c525⟩, H⟩ := chk_o H
      obtain ⟨h53, eh53, H⟩ := nm_o H
      refine x_acopy dX9_removeObject_56 lk_X9_55 na_acp sm_acp ii_J10 c41 c41 c521 c522 c523 c524 c525 (Nat.le_of_ble_eq_true rfl) ?_
      refine Ex.ren eh53 ?_
      refine x_aload_n dX9_removeObject_59 rfl 2 rfl ?_
      obtain ⟨c54, H⟩ := ko_o H
      obtain ⟨a55, c56, H⟩ := kr_o H
      refine x_getR fr_X9_21 dX9_removeObject_60 c54 rfl c56 ?_
      refine x_iload_n dX9_removeObject_63 rfl 3 rfl ?_
      refine x_iconst (v := 1) dX9_removeObject_64 (by decide) ?_
      refine x_iadd dX9_removeObject_65 ?_
      refine x_aload_n dX9_removeObject_66 rfl 2 rfl ?_
      refine x_getR fr_X9_21 dX9_removeObject_67 c54 rfl c56 ?_
      refine x_iload_n dX9_removeObject_70 rfl 3 rfl ?_
      refine x_aload_n dX9_removeObject_71 rfl 2 rfl ?_
      refine x_getI fr_X9_33 dX9_removeObject_72 c54 rfl ?_
      refine x_iload_n dX9_removeObject_75 rfl 3 rfl ?_
      refine x_isub dX9_removeObject_76 ?_
      obtain ⟨n58, c57, H⟩ := ka_o H
      obtain ⟨⟨c591, c592, c593, c594, c595⟩, H⟩ := chk_o H
      obtain ⟨h60, eh60, H⟩ := nm_o H
      refine x_acopy dX9_removeObject_77 lk_X9_55 na_acp sm_acp ii_J10 c57 c57 c591 c592 c593 c594 c595 (Nat.le_of_ble_eq_true rfl) ?_
      refine Ex.ren eh60 ?_
      refine x_aload_n dX9_removeObject_80 rfl 2 rfl ?_
      obtain ⟨c61, H⟩ := ko_o H
      obtain ⟨a62, c63, H⟩ := kr_o H
      refine x_getR fr_X9_24 dX9_removeObject_81 c61 rfl c63 ?_
      refine x_iload_n dX9_removeObject_84 rfl 3 rfl ?_
      refine x_iconst (v := 1) dX9_removeObject_85 (by decide) ?_
      refine x_iadd dX9_removeObject_86 ?_
      refine x_aload_n dX9_removeObject_87 rfl 2 rfl ?_
      refine x_getR fr_X9_24 dX9_removeObject_88 c61 rfl c63 ?_
      refine x_iload_n dX9_removeObject_91 rfl 3 rfl ?_
      refine x_aload_n dX9_removeObject_92 rfl 2 rfl ?_
      refine x_getI fr_X9_33 dX9_removeObject_93 c61 rfl ?_
      refine x_iload_n dX9_removeObject_96 rfl 3 rfl ?_
      refine x_isub dX9_removeObject_97 ?_
      obtain ⟨n65, c64, H⟩ := ka_o H
      obtain ⟨⟨c661, c662, c663, c664, c665⟩, H⟩ := chk_o H
      obtain ⟨h67, eh67, H⟩ := nm_o H
      refine x_acopy dX9_removeObject_98 lk_X9_55 na_acp sm_acp ii_J10 c64 c64 c661 c662 c663 c664 c665 (Nat.le_of_ble_eq_true rfl) ?_
      refine Ex.ren eh67 ?_
      refine x_iconst (v := 0) dX9_removeObject_101 (by decide) ?_
      refine x_istore (lv' := [(5, .int 0), (4, .int v50), (3, .int v44), (0, .ref x0), (1, .int x1), (2, .int x2)]) dX9_removeObject_102 (by decide) rfl rfl ?_
      refine Ex.sub [3, 5, 2, 1, 0] rfl ?_
      exact t_X9_removeObject_104 hd FU H
    · replace H := ite_m H c38
      refine Ex.sub [] rfl ?_
      exact t_X9_removeObject_12 hd H
