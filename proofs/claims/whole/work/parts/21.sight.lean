def f_X4_init (x0 : Nat) (h : aH) : Option (Unit × aH) :=
  ko h x0 4 <|
  nm (hN (sI (sI (sI (sI h x0 0 0) x0 1 0) x0 2 4) x0 3 0)) fun (a3 : Nat) =>
  nm (nw (sI (sI (sI (sI h x0 0 0) x0 1 0) x0 2 4) x0 3 0) (.inr (.byte, 24)) 24) fun (h2 : aH) =>
  ko h2 x0 4 <|
  nm (hN (sR h2 x0 4 (some a3))) fun (a6 : Nat) =>
  nm (nw (sR h2 x0 4 (some a3)) (.inr (.int, 4)) 4) fun (h5 : aH) =>
  ko h5 x0 4 <|
  nm (hN (sR h5 x0 5 (some a6))) fun (a9 : Nat) =>
  nm (nw (sR h5 x0 5 (some a6)) (.inr (.int, 1600)) 1600) fun (h8 : aH) =>
  ko h8 x0 4 <|
  nm (hN (sR h8 x0 6 (some a9))) fun (a12 : Nat) =>
  nm (nw (sR h8 x0 6 (some a9)) (.inr (.int, 3)) 3) fun (h11 : aH) =>
  ko h11 x0 4 <|
  nm (hN (sR h11 x0 7 (some a12))) fun (a15 : Nat) =>
  nm (nw (sR h11 x0 7 (some a12)) (.inr (.int, 3)) 3) fun (h14 : aH) =>
  ko h14 x0 4 <|
  some ((), sI (sR h14 x0 8 (some a15)) x0 9 0)
set_option maxRecDepth 100000 in
set_option maxHeartbeats 4000000 in
theorem t_X4_init {Γ : gS} {d : Nat} (hd : 1 ≤ d) {x0 : Nat} {h : aH} {r : Unit} {h' : aH} (H : f_X4_init x0 h = some (r, h')) : Mx Γ gX4_init d [.ref x0] h none h' := by
  refine Mx.of (by decide +kernel) (Nat.le_of_ble_eq_true rfl) ?_
  unfold f_X4_init at H
  show Ex Γ gX4_init d 0 [(0, .ref x0)] [] h none h'
  obtain ⟨d, rfl⟩ : ∃ e, d = e + 1 := ⟨d - 1, by omega⟩
  refine x_aload_n dX4_init_0 rfl 0 rfl ?_
  refine x_oinit dX4_init_1 lk_X4_3 im_obj co_obj (Nat.le_of_ble_eq_true rfl) ?_
  refine x_aload_n dX4_init_4 rfl 0 rfl ?_
  refine x_iconst (v := 0) dX4_init_5 (by decide) ?_
  obtain ⟨c1, H⟩ := ko_o H
  refine x_putI fl_X4_9 dX4_init_6 c1 (fun e => by cases e) rfl ?_
  refine x_aload_n dX4_init_9 rfl 0 rfl ?_
  refine x_iconst (v := 0) dX4_init_10 (by decide) ?_
  refine x_putI fl_X4_15 dX4_init_11 c1 (fun e => by cases e) rfl ?_
  refine x_aload_n dX4_init_14 rfl 0 rfl ?_
  refine x_iconst (v := 4) dX4_init_15 (by decide) ?_
  refine x_putI fl_X4_18 dX4_init_16 c1 (fun e => by cases e) rfl ?_
  refine x_aload_n dX4_init_19 rfl 0 rfl ?_
  refine x_iconst (v := 0) dX4_init_20 (by decide) ?_
  refine x_putI fl_X4_21 dX4_init_21 c1 (fun e => by cases e) rfl ?_
  refine x_aload_n dX4_init_24 rfl 0 rfl ?_
  refine x_bipush (v := 24) dX4_init_25 (by decide) ?_
  obtain ⟨a3, ea3, H⟩ := nm_o H
  obtain ⟨h2, eh2, H⟩ := nm_o H
  refine x_newa (t := .byte) (N := 24) dX4_init_27 rfl (by decide) rfl ac_byte (by decide) (by decide) (by decide) ?_
  rw [ea3]
  refine Ex.ren eh2 ?_
  obtain ⟨c4, H⟩ := ko_o H
  refine x_putR fl_X4_24 dX4_init_29 c4 (fun _ => rfl) rfl ?_
  refine x_aload_n dX4_init_32 rfl 0 rfl ?_
  refine x_iconst (v := 4) dX4_init_33 (by decide) ?_
  obtain ⟨a6, ea6, H⟩ := nm_o H
  obtain ⟨h5, eh5, H⟩ := nm_o H
  refine x_newa (t := .int) (N := 4) dX4_init_34 rfl (by decide) rfl ac_int (by decide) (by decide) (by decide) ?_
  rw [ea6]
  refine Ex.ren eh5 ?_
  obtain ⟨c7, H⟩ := ko_o H
  refine x_putR fl_X4_28 dX4_init_36 c7 (fun _ => rfl) rfl ?_
  refine x_aload_n dX4_init_39 rfl 0 rfl ?_
  refine x_sipush (v := 1600) dX4_init_40 (by decide) ?_
  obtain ⟨a9, ea9, H⟩ := nm_o H
  obtain ⟨h8, eh8, H⟩ := nm_o H
  refine x_newa (t := .int) (N := 1600) dX4_init_43 rfl (by decide) rfl ac_int (by decide) (by decide) (by decide) ?_
  rw [ea9]
  refine Ex.ren eh8 ?_
  obtain ⟨c10, H⟩ := ko_o H
  refine x_putR fl_X4_32 dX4_init_45 c10 (fun _ => rfl) rfl ?_
  refine x_aload_n dX4_init_48 rfl 0 rfl ?_
  refine x_iconst (v := 3) dX4_init_49 (by decide) ?_
  obtain ⟨a12, ea12, H⟩ := nm_o H
  obtain ⟨h11, eh11, H⟩ := nm_o H
  refine x_newa (t := .int) (N := 3) dX4_init_50 rfl (by decide) rfl ac_int (by decide) (by decide) (by decide) ?_
  rw [ea12]
  refine Ex.ren eh11 ?_
  obtain ⟨c13, H⟩ := ko_o H
  refine x_putR fl_X4_35 dX4_init_52 c13 (fun _ => rfl) rfl ?_
  refine x_aload_n dX4_init_55 rfl 0 rfl ?_
  refine x_iconst (v := 3) dX4_init_56 (by decide) ?_
  obtain ⟨a15, ea15, H⟩ := nm_o H
  obtain ⟨h14, eh14, H⟩ := nm_o H
  refine x_newa (t := .int) (N := 3) dX4_init_57 rfl (by decide) rfl ac_int (by decide) (by decide) (by decide) ?_
  rw [ea15]
  refine Ex.ren eh14 ?_
  obtain ⟨c16, H⟩ := ko_o H
  refine x_putR fl_X4_38 dX4_init_59 c16 (fun _ => rfl) rfl ?_
  refine x_aload_n dX4_init_62 rfl 0 rfl ?_
  refine x_iconst (v := 0) dX4_init_63 (by decide) ?_
  refine x_putI fl_X4_41 dX4_init_64 c16 (fun e => by cases e) rfl ?_
  obtain ⟨-, rfl⟩ := so_1 H
  exact x_vret dX4_init_67 rfl
def f_X4_clear (x0 : Nat) (h : aH) : Option (Unit × aH) :=
  ko h x0 4 <|
  kr (hR h x0 4) fun a2 =>
  bd (f_J7_fill_031fb a2 0 (sI (sI (sI h x0 0 0) x0 3 0) x0 9 0)) fun _ h5 =>
  ko h5 x0 4 <|
  kr (hR h5 x0 7) fun a8 =>
  bd (f_J7_fill_53178 a8 0 h5) fun _ h11 =>
  ko h11 x0 4 <|
  kr (hR h11 x0 8) fun a14 =>
  bd (f_J7_fill_53178 a14 0 h11) fun _ h17 =>
  some ((), h17)
set_option maxRecDepth 100000 in
set_option maxHeartbeats 4000000 in
theorem t_X4_clear {Γ : gS} {d : Nat} (hd : 1 ≤ d) {x0 : Nat} {h : aH} {r : Unit} {h' : aH} (H : f_X4_clear x0 h = some (r, h')) : Mx Γ gX4_clear d [.ref x0] h none h' := by
  refine Mx.of (by decide +kernel) (Nat.le_of_ble_eq_true rfl) ?_
  unfold f_X4_clear at H
  show Ex Γ gX4_clear d 0 [(0, .ref x0)] [] h none h'
  obtain ⟨d, rfl⟩ : ∃ e, d = e + 1 := ⟨d - 1, by omega⟩
  refine x_aload_n dX4_clear_0 rfl 0 rfl ?_
  refine x_iconst (v := 0) dX4_clear_1 (by decide) ?_
  obtain ⟨c1, H⟩ := ko_o H
  refine x_putI fl_X4_9 dX4_clear_2 c1 (fun e => by cases e) rfl ?_
  refine x_aload_n dX4_clear_5 rfl 0 rfl ?_
  refine x_iconst (v := 0) dX4_clear_6 (by decide) ?_
  refine x_putI fl_X4_21 dX4_clear_7 c1 (fun e => by cases e) rfl ?_
  refine x_aload_n dX4_clear_10 rfl 0 rfl ?_
  refine x_iconst (v := 0) dX4_clear_11 (by decide) ?_
  refine x_putI fl_X4_41 dX4_clear_12 c1 (fun e => by cases e) rfl ?_
  refine x_aload_n dX4_clear_15 rfl 0 rfl ?_
  obtain ⟨a2, c3, H⟩ := kr_o H
  refine x_getR fr_X4_24 dX4_clear_16 c1 rfl c3 ?_
  refine x_iconst (v := 0) dX4_clear_19 (by decide) ?_
  obtain ⟨v4, h5, hc6, H⟩ := bd_o H
  refine x_callSv (As := [.ref a2, .int 0]) dX4_clear_20 mi_J7_fill_031fb lk_X4_44 sm_J7_fill_031fb rfl rfl (Nat.le_of_ble_eq_true rfl) (t_J7_fill_031fb (by omega) hc6) ?_
  refine x_aload_n dX4_clear_23 rfl 0 rfl ?_
  obtain ⟨c7, H⟩ := ko_o H
  obtain ⟨a8, c9, H⟩ := kr_o H
  refine x_getR fr_X4_35 dX4_clear_24 c7 rfl c9 ?_
  refine x_iconst (v := 0) dX4_clear_27 (by decide) ?_
  obtain ⟨v10, h11, hc12, H⟩ := bd_o H
  refine x_callSv (As := [.ref a8, .int 0]) dX4_clear_28 mi_J7_fill_53178 lk_X4_50 sm_J7_fill_53178 rfl rfl (Nat.le_of_ble_eq_true rfl) (t_J7_fill_53178 (by omega) hc12) ?_
  refine x_aload_n dX4_clear_31 rfl 0 rfl ?_
  obtain ⟨c13, H⟩ := ko_o H
  obtain ⟨a14, c15, H⟩ := kr_o H
  refine x_getR fr_X4_38 dX4_clear_32 c13 rfl c15 ?_
  refine x_iconst (v := 0) dX4_clear_35 (by decide) ?_
  obtain ⟨v16, h17, hc18, H⟩ := bd_o H
  refine x_callSv (As := [.ref a14, .int 0]) dX4_clear_36 mi_J7_fill_53178 lk_X4_50 sm_J7_fill_53178 rfl rfl (Nat.le_of_ble_eq_true rfl) (t_J7_fill_53178 (by omega) hc18) ?_
  obtain ⟨-, rfl⟩ := so_1 H
  exact x_vret dX4_clear_39 rfl
def f_X4_setName_70 (k3 : Nat → Int32 → Nat → Int32 → Int32 → Int32 → aH → Option (Unit × aH)) (x0 : Nat) (x1 : Int32) (x2 : Nat) (x3 : Int32) (x4 : Int32) (x5 : Int32) (s0 : Nat) (s1 : Int32) (s2 : Int32) (h : aH) : Option (Unit × aH) :=
  ka h s0 .byte fun n2 =>
  chk (inb s1 n2 = true) <|
  nm (x5 + 1) fun (v4 : Int32) =>
  k3 x0 x1 x2 x3 x4 v4 (sI h s0 s1.toNatClampNeg s2.toInt8.toInt32)
set_option maxRecDepth 100000 in
set_option maxHeartbeats 4000000 in
theorem t_X4_setName_70 {Γ : gS} {d : Nat} (hd : 0 ≤ d) {k3 : Nat → Int32 → Nat → Int32 → Int32 → Int32 → aH → Option (Unit × aH)} (hk3 : ∀ {x0 : Nat} {x1 : Int32} {x2 : Nat} {x3 : Int32} {x4 : Int32} {x5 : Int32} {h : aH} {r : Unit} {h' : aH}, k3 x0 x1 x2 x3 x4 x5 h = some (r, h') → Ex Γ gX4_setName d 3 [(0, .ref x0), (1, .int x1), (2, .ref x2), (3, .int x3), (4, .int x4), (5, .int x5)] [] h none h') {x0 : Nat} {x1 : Int32} {x2 : Nat} {x3 : Int32} {x4 : Int32} {x5 : Int32} {s0 : Nat} {s1 : Int32} {s2 : Int32} {h : aH} {r : Unit} {h' : aH} (H : f_X4_setName_70 k3 x0 x1 x2 x3 x4 x5 s0 s1 s2 h = some (r, h')) : Ex Γ gX4_setName d 70 [(0, .ref x0), (1, .int x1), (2, .ref x2), (3, .int x3), (4, .int x4), (5, .int x5)] [.int s2, .int s1, .ref s0] h none h' := by
  unfold f_X4_setName_70 at H
  obtain ⟨n2, c1, H⟩ := ka_o H
  obtain ⟨c3, H⟩ := chk_o H
  refine x_bast dX4_setName_70 c1 (inb_in.mp c3) ?_
  obtain ⟨v4, ev4, H⟩ := nm_o H
  refine x_iinc (v := v4) (lv' := [(5, .int v4), (0, .ref x0), (1, .int x1), (2, .ref x2), (3, .int x3), (4, .int x4)]) dX4_setName_71 5 rfl (by decide) ev4 rfl ?_
  refine x_goto (tgt := 3) dX4_setName_74 (by decide) ?_
  refine Ex.sub [1, 2, 3, 4, 5, 0] rfl ?_
  exact hk3 H
def f_X4_setName_36 (k3 : Nat → Int32 → Nat → Int32 → Int32 → Int32 → aH → Option (Unit × aH)) (x0 : Nat) (x1 : Int32) (x2 : Nat) (x3 : Int32) (x4 : Int32) (x5 : Int32) (s0 : Int32) (h : aH) : Option (Unit × aH) :=
  ko h x0 4 <|
  kr (hR h x0 4) fun a6 =>
  if s0 = 0 then
    f_X4_setName_70 k3 x0 x1 x2 x3 x4 x5 a6 ((x1 * 6) + x5) 0 h
  else
    ka h x2 .byte fun n10 =>
    chk (inb (x3 + x5) n10 = true) <|
    f_X4_setName_70 k3 x0 x1 x2 x3 x4 x5 a6 ((x1 * 6) + x5) ((((hI h x2 (x3 + x5 : Int32).toNatClampNeg) - 97) + 1 : Int32).toInt8.toInt32) h
set_option maxRecDepth 100000 in
set_option maxHeartbeats 4000000 in
theorem t_X4_setName_36 {Γ : gS} {d : Nat} (hd : 0 ≤ d) {k3 : Nat → Int32 → Nat → Int32 → Int32 → Int32 → aH → Option (Unit × aH)} (hk3 : ∀ {x0 : Nat} {x1 : Int32} {x2 : Nat} {x3 : Int32} {x4 : Int32} {x5 : Int32} {h : aH} {r : Unit} {h' : aH}, k3 x0 x1 x2 x3 x4 x5 h = some (r, h') → Ex Γ gX4_setName d 3 [(0, .ref x0), (1, .int x1), (2, .ref x2), (3, .int x3), (4, .int x4), (5, .int x5)] [] h none h') {x0 : Nat} {x1 : Int32} {x2 : Nat} {x3 : Int32} {x4 : Int32} {x5 : Int32} {s0 : Int32} {h : aH} {r : Unit} {h' : aH} (H : f_X4_setName_36 k3 x0 x1 x2 x3 x4 x5 s0 h = some (r, h')) : Ex Γ gX4_setName d 36 [(0, .ref x0), (1, .int x1), (2, .ref x2), (3, .int x3), (4, .int x4), (5, .int x5)] [.int s0] h none h' := by
  unfold f_X4_setName_36 at H
  refine x_istore (lv' := [(6, .int s0), (0, .ref x0), (1, .int x1), (2, .ref x2), (3, .int x3), (4, .int x4), (5, .int x5)]) dX4_setName_36 (by decide) rfl rfl ?_
  refine x_aload_n dX4_setName_38 rfl 1 rfl ?_
  obtain ⟨c5, H⟩ := ko_o H
  obtain ⟨a6, c7, H⟩ := kr_o H
  refine x_getR fr_X4_24 dX4_setName_39 c5 rfl c7 ?_
  refine x_iload_n dX4_setName_42 rfl 2 rfl ?_
  refine x_bipush (v := 6) dX4_setName_43 (by decide) ?_
  refine x_imul dX4_setName_45 ?_
  refine x_iload dX4_setName_46 6 rfl ?_
  refine x_iadd dX4_setName_48 ?_
  refine x_iload dX4_setName_49 0 rfl ?_
  refine x_if_eq (tgt := 69) dX4_setName_51 (by decide) (fun c8 => ?_) (fun c8 => ?_)
  · replace H := ite_p H c8
    refine x_iconst (v := 0) dX4_setName_69 (by decide) ?_
    refine Ex.sub [1, 2, 3, 4, 5, 6] rfl ?_
    exact t_X4_setName_70 hd hk3 H
  · replace H := ite_m H c8
    refine x_aload_n dX4_setName_54 rfl 3 rfl ?_
    refine x_iload_n dX4_setName_55 rfl 4 rfl ?_
    refine x_iload dX4_setName_56 6 rfl ?_
    refine x_iadd dX4_setName_58 ?_
    obtain ⟨n10, c9, H⟩ := ka_o H
    obtain ⟨c11, H⟩ := chk_o H
    refine x_bald dX4_setName_59 c9 (inb_in.mp c11) ?_
    refine x_bipush (v := 97) dX4_setName_60 (by decide) ?_
    refine x_isub dX4_setName_62 ?_
    refine x_iconst (v := 1) dX4_setName_63 (by decide) ?_
    refine x_iadd dX4_setName_64 ?_
    refine x_i2b dX4_setName_65 ?_
    refine x_goto (tgt := 70) dX4_setName_66 (by decide) ?_
    refine Ex.sub [1, 2, 3, 4, 5, 6] rfl ?_
    exact t_X4_setName_70 hd hk3 H
def f_X4_setName_35 (k3 : Nat → Int32 → Nat → Int32 → Int32 → Int32 → aH → Option (Unit × aH)) (x0 : Nat) (x1 : Int32) (x2 : Nat) (x3 : Int32) (x4 : Int32) (x5 : Int32) (h : aH) : Option (Unit × aH) :=
  f_X4_setName_36 k3 x0 x1 x2 x3 x4 x5 0 h
set_option maxRecDepth 100000 in
set_option maxHeartbeats 4000000 in
theorem t_X4_setName_35 {Γ : gS} {d : Nat} (hd : 0 ≤ d) {k3 : Nat → Int32 → Nat → Int32 → Int32 → Int32 → aH → Option (Unit × aH)} (hk3 : ∀ {x0 : Nat} {x1 : Int32} {x2 : Nat} {x3 : Int32} {x4 : Int32} {x5 : Int32} {h : aH} {r : Unit} {h' : aH}, k3 x0 x1 x2 x3 x4 x5 h = some (r, h') → Ex Γ gX4_setName d 3 [(0, .ref x0), (1, .int x1), (2, .ref x2), (3, .int x3), (4, .int x4), (5, .int x5)] [] h none h') {x0 : Nat} {x1 : Int32} {x2 : Nat} {x3 : Int32} {x4 : Int32} {x5 : Int32} {h : aH} {r : Unit} {h' : aH} (H : f_X4_setName_35 k3 x0 x1 x2 x3 x4 x5 h = some (r, h')) : Ex Γ gX4_setName d 35 [(0, .ref x0), (1, .int x1), (2, .ref x2), (3, .int x3), (4, .int x4), (5, .int x5)] [] h none h' := by
  unfold f_X4_setName_35 at H
  refine x_iconst (v := 0) dX4_setName_35 (by decide) ?_
  exact t_X4_setName_36 hd hk3 H
def f_X4_setName_77 (h : aH) : Option (Unit × aH) :=
  some ((), h)
set_option maxRecDepth 100000 in
set_option maxHeartbeats 4000000 in
theorem t_X4_setName_77 {Γ : gS} {d : Nat} (hd : 0 ≤ d) {h : aH} {r : Unit} {h' : aH} (H : f_X4_setName_77 h = some (r, h')) : Ex Γ gX4_setName d 77 [] [] h none h' := by
  unfold f_X4_setName_77 at H
  obtain ⟨-, rfl⟩ := so_1 H
  exact x_vret dX4_setName_77 rfl
def b_X4_setName_3 (k3 : Nat → Int32 → Nat → Int32 → Int32 → Int32 → aH → Option (Unit × aH)) (x0 : Nat) (x1 : Int32) (x2 : Nat) (x3 : Int32) (x4 : Int32) (x5 : Int32) (h : aH) : Option (Unit × aH) :=
  if 6 ≤ x5 then
    f_X4_setName_77 h
  else
    if 4 ≤ x1 then
      f_X4_setName_77 h
    else
      if x4 ≤ x5 then
        f_X4_setName_35 k3 x0 x1 x2 x3 x4 x5 h
      else
        ka h x2 .byte fun n16 =>
        if (Int32.ofNat n16) ≤ (x3 + x5) then
          f_X4_setName_35 k3 x0 x1 x2 x3 x4 x5 h
        else
          f_X4_setName_36 k3 x0 x1 x2 x3 x4 x5 1 h
set_option maxRecDepth 100000 in
set_option maxHeartbeats 4000000 in
theorem tb_X4_setName_3 {Γ : gS} {d : Nat} (hd : 0 ≤ d) {k3 : Nat → Int32 → Nat → Int32 → Int32 → Int32 → aH → Option (Unit × aH)} (hk3 : ∀ {x0 : Nat} {x1 : Int32} {x2 : Nat} {x3 : Int32} {x4 : Int32} {x5 : Int32} {h : aH} {r : Unit} {h' : aH}, k3 x0 x1 x2 x3 x4 x5 h = some (r, h') → Ex Γ gX4_setName d 3 [(0, .ref x0), (1, .int x1), (2, .ref x2), (3, .int x3), (4, .int x4), (5, .int x5)] [] h none h') {x0 : Nat} {x1 : Int32} {x2 : Nat} {x3 : Int32} {x4 : Int32} {x5 : Int32} {h : aH} {r : Unit} {h' : aH} (H : b_X4_setName_3 k3 x0 x1 x2 x3 x4 x5 h = some (r, h')) : Ex Γ gX4_setName d 3 [(0, .ref x0), (1, .int x1), (2, .ref x2), (3, .int x3), (4, .int x4), (5, .int x5)] [] h none h' := by
  unfold b_X4_setName_3 at H
  refine x_iload dX4_setName_3 5 rfl ?_
  refine x_bipush (v := 6) dX4_setName_5 (by decide) ?_
  refine x_icmp_ge (tgt := 77) dX4_setName_7 (by decide) (fun c12 => ?_) (fun c12 => ?_)
  · replace H := ite_p H c12
    refine Ex.sub [] rfl ?_
    exact t_X4_setName_77 hd H
  · replace H := ite_m H c12
    refine x_iload_n dX4_setName_10 rfl 1 rfl ?_
    refine x_iconst (v := 4) dX4_setName_11 (by decide) ?_
    refine x_icmp_ge (tgt := 77) dX4_setName_12 (by decide) (fun c13 => ?_) (fun c13 => ?_)
    · replace H := ite_p H c13
      refine Ex.sub [] rfl ?_
      exact t_X4_setName_77 hd H
    · replace H := ite_m H c13
      refine x_iload dX4_setName_15 5 rfl ?_
      refine x_iload dX4_setName_17 4 rfl ?_
      refine x_icmp_ge (tgt := 35) dX4_setName_19 (by decide) (fun c14 => ?_) (fun c14 => ?_)
      · replace H := ite_p H c14
        exact t_X4_setName_35 hd hk3 H
      · replace H := ite_m H c14
        refine x_iload_n dX4_setName_22 rfl 3 rfl ?_
        refine x_iload dX4_setName_23 5 rfl ?_
        refine x_iadd dX4_setName_25 ?_
        refine x_aload_n dX4_setName_26 rfl 2 rfl ?_
        obtain ⟨n16, c15, H⟩ := ka_o H
        refine x_alen dX4_setName_27 c15 (by decide) ?_
        refine x_icmp_ge (tgt := 35) dX4_setName_28 (by decide) (fun c17 => ?_) (fun c17 => ?_)
        · replace H := ite_p H c17
          exact t_X4_setName_35 hd hk3 H
        · replace H := ite_m H c17
          refine x_iconst (v := 1) dX4_setName_31 (by decide) ?_
          refine x_goto (tgt := 36) dX4_setName_32 (by decide) ?_
          exact t_X4_setName_36 hd hk3 H
def f_X4_setName_3 : Nat → Nat → Int32 → Nat → Int32 → Int32 → Int32 → aH → Option (Unit × aH)
  | 0 => fun _ _ _ _ _ _ _ => none
  | n + 1 => b_X4_setName_3 (f_X4_setName_3 n)
set_option maxRecDepth 100000 in
set_option maxHeartbeats 4000000 in
theorem t_X4_setName_3 {Γ : gS} {d : Nat} (hd : 0 ≤ d) (n : Nat) : ∀ {x0 : Nat} {x1 : Int32} {x2 : Nat} {x3 : Int32} {x4 : Int32} {x5 : Int32} {h : aH} {r : Unit} {h' : aH}, f_X4_setName_3 n x0 x1 x2 x3 x4 x5 h = some (r, h') → Ex Γ gX4_setName d 3 [(0, .ref x0), (1, .int x1), (2, .ref x2), (3, .int x3), (4, .int x4), (5, .int x5)] [] h none h' := by
  induction n with
  | zero => intro x0 x1 x2 x3 x4 x5 h r h' H; cases H
  | succ n ih => intro x0 x1 x2 x3 x4 x5 h r h' H; exact tb_X4_setName_3 hd ih H
def f_X4_setName (x0 : Nat) (x1 : Int32) (x2 : Nat) (x3 : Int32) (x4 : Int32) (h : aH) : Option (Unit × aH) :=
  f_X4_setName_3 FU x0 x1 x2 x3 x4 0 h
set_option maxRecDepth 100000 in
set_option maxHeartbeats 4000000 in
theorem t_X4_setName {Γ : gS} {d : Nat} (hd : 0 ≤ d) {x0 : Nat} {x1 : Int32} {x2 : Nat} {x3 : Int32} {x4 : Int32} {h : aH} {r : Unit} {h' : aH} (H : f_X4_setName x0 x1 x2 x3 x4 h = some (r, h')) : Mx Γ gX4_setName d [.ref x0, .int x1, .ref x2, .int x3, .int x4] h none h' := by
  refine Mx.of (by decide +kernel) (Nat.le_of_ble_eq_true rfl) ?_
  unfold f_X4_setName at H
  show Ex Γ gX4_setName d 0 [(0, .ref x0), (1, .int x1), (2, .ref x2), (3, .int x3), (4, .int x4)] [] h none h'
  refine x_iconst (v := 0) dX4_setName_0 (by decide) ?_
  refine x_istore (lv' := [(5, .int 0), (0, .ref x0), (1, .int x1), (2, .ref x2), (3, .int x3), (4, .int x4)]) dX4_setName_1 (by decide) rfl rfl ?_
  refine Ex.sub [1, 2, 3, 4, 5, 0] rfl ?_
  exact t_X4_setName_3 hd FU H
def f_X4_hasNameTwice_51 (k2 : Nat → Int32 → Int32 → aH → Option (Int32 × aH)) (x0 : Nat) (x1 : Int32) (x2 : Int32) (x3 : Int32) (h : aH) : Option (Int32 × aH) :=
  if x3 = 6 then
    some (1, h)
  else
    nm (x2 + 1) fun (v2 : Int32) =>
    k2 x0 x1 v2 h
set_option maxRecDepth 100000 in
set_option maxHeartbeats 4000000 in
theorem t_X4_hasNameTwice_51 {Γ : gS} {d : Nat} (hd : 0 ≤ d) {k2 : Nat → Int32 → Int32 → aH → Option (Int32 × aH)} (hk2 : ∀ {x0 : Nat} {x1 : Int32} {x2 : Int32} {h : aH} {r : Int32} {h' : aH}, k2 x0 x1 x2 h = some (r, h') → Ex Γ gX4_hasNameTwice d 2 [(0, .ref x0), (1, .int x1), (2, .int x2)] [] h (some (.int r)) h') {x0 : Nat} {x1 : Int32} {x2 : Int32} {x3 : Int32} {h : aH} {r : Int32} {h' : aH} (H : f_X4_hasNameTwice_51 k2 x0 x1 x2 x3 h = some (r, h')) : Ex Γ gX4_hasNameTwice d 51 [(0, .ref x0), (1, .int x1), (2, .int x2), (3, .int x3)] [] h (some (.int r)) h' := by
  unfold f_X4_hasNameTwice_51 at H
  refine x_iload_n dX4_hasNameTwice_51 rfl 3 rfl ?_
  refine x_bipush (v := 6) dX4_hasNameTwice_52 (by decide) ?_
  refine x_icmp_ne (tgt := 59) dX4_hasNameTwice_54 (by decide) (fun c1 => ?_) (fun c1 => ?_)
  · replace H := ite_m H c1
    obtain ⟨v2, ev2, H⟩ := nm_o H
    refine x_iinc (v := v2) (lv' := [(2, .int v2), (0, .ref x0), (1, .int x1), (3, .int x3)]) dX4_hasNameTwice_59 2 rfl (by decide) ev2 rfl ?_
    refine x_goto (tgt := 2) dX4_hasNameTwice_62 (by decide) ?_
    refine Ex.sub [1, 2, 0] rfl ?_
    exact hk2 H
  · replace H := ite_p H c1
    refine x_iconst (v := 1) dX4_hasNameTwice_57 (by decide) ?_
    obtain ⟨rfl, rfl⟩ := so_1 H
    exact x_iret dX4_hasNameTwice_58 rfl (by decide)
def b_X4_hasNameTwice_14 (k2 : Nat → Int32 → Int32 → aH → Option (Int32 × aH)) (k14 : Nat → Int32 → Int32 → Int32 → aH → Option (Int32 × aH)) (x0 : Nat) (x1 : Int32) (x2 : Int32) (x3 : Int32) (h : aH) : Option (Int32 × aH) :=
  if 6 ≤ x3 then
    f_X4_hasNameTwice_51 k2 x0 x1 x2 x3 h
  else
    ko h x0 4 <|
    kr (hR h x0 4) fun a5 =>
    ka h a5 .byte fun n8 =>
    chk (inb ((x2 * 6) + x3) n8 = true) <|
    chk (inb ((x1 * 6) + x3) n8 = true) <|
    if (hI h a5 ((x2 * 6) + x3 : Int32).toNatClampNeg) = (hI h a5 ((x1 * 6) + x3 : Int32).toNatClampNeg) then
      nm (x3 + 1) fun (v12 : Int32) =>
      k14 x0 x1 x2 v12 h
    else
      f_X4_hasNameTwice_51 k2 x0 x1 x2 x3 h
set_option maxRecDepth 100000 in
set_option maxHeartbeats 4000000 in
theorem tb_X4_hasNameTwice_14 {Γ : gS} {d : Nat} (hd : 0 ≤ d) {k2 : Nat → Int32 → Int32 → aH → Option (Int32 × aH)} (hk2 : ∀ {x0 : Nat} {x1 : Int32} {x2 : Int32} {h : aH} {r : Int32} {h' : aH}, k2 x0 x1 x2 h = some (r, h') → Ex Γ gX4_hasNameTwice d 2 [(0, .ref x0), (1, .int x1), (2, .int x2)] [] h (some (.int r)) h') {k14 : Nat → Int32 → Int32 → Int32 → aH → Option (Int32 × aH)} (hk14 : ∀ {x0 : Nat} {x1 : Int32} {x2 : Int32} {x3 : Int32} {h : aH} {r : Int32} {h' : aH}, k14 x0 x1 x2 x3 h = some (r, h') → Ex Γ gX4_hasNameTwice d 14 [(0, .ref x0), (1, .int x1), (2, .int x2), (3, .int x3)] [] h (some (.int r)) h') {x0 : Nat} {x1 : Int32} {x2 : Int32} {x3 : Int32} {h : aH} {r : Int32} {h' : aH} (H : b_X4_hasNameTwice_14 k2 k14 x0 x1 x2 x3 h = some (r, h')) : Ex Γ gX4_hasNameTwice d 14 [(0, .ref x0), (1, .int x1), (2, .int x2), (3, .int x3)] [] h (some (.int r)) h' := by
  unfold b_X4_hasNameTwice_14 at H
  refine x_iload_n dX4_hasNameTwice_14 rfl 3 rfl ?_
  refine x_bipush (v := 6) dX4_hasNameTwice_15 (by decide) ?_
  refine x_icmp_ge (tgt := 51) dX4_hasNameTwice_17 (by decide) (fun c3 => ?_) (fun c3 => ?_)
  · replace H := ite_p H c3
    exact t_X4_hasNameTwice_51 hd hk2 H
  · replace H := ite_m H c3
    refine x_aload_n dX4_hasNameTwice_20 rfl 0 rfl ?_
    obtain ⟨c4, H⟩ := ko_o H
    obtain ⟨a5, c6, H⟩ := kr_o H
    refine x_getR fr_X4_24 dX4_hasNameTwice_21 c4 rfl c6 ?_
    refine x_iload_n dX4_hasNameTwice_24 rfl 2 rfl ?_
    refine x_bipush (v := 6) dX4_hasNameTwice_25 (by decide) ?_
    refine x_imul dX4_hasNameTwice_27 ?_
    refine x_iload_n dX4_hasNameTwice_28 rfl 3 rfl ?_
    refine x_iadd dX4_hasNameTwice_29 ?_
    obtain ⟨n8, c7, H⟩ := ka_o H
    obtain ⟨c9, H⟩ := chk_o H
    refine x_bald dX4_hasNameTwice_30 c7 (inb_in.mp c9) ?_
    refine x_aload_n dX4_hasNameTwice_31 rfl 0 rfl ?_
    refine x_getR fr_X4_24 dX4_hasNameTwice_32 c4 rfl c6 ?_
    refine x_iload_n dX4_hasNameTwice_35 rfl 1 rfl ?_
    refine x_bipush (v := 6) dX4_hasNameTwice_36 (by decide) ?_
    refine x_imul dX4_hasNameTwice_38 ?_
    refine x_iload_n dX4_hasNameTwice_39 rfl 3 rfl ?_
    refine x_iadd dX4_hasNameTwice_40 ?_
    obtain ⟨c10, H⟩ := chk_o H
    refine x_bald dX4_hasNameTwice_41 c7 (inb_in.mp c10) ?_
    refine x_icmp_ne (tgt := 51) dX4_hasNameTwice_42 (by decide) (fun c11 => ?_) (fun c11 => ?_)
    · replace H := ite_m H c11
      exact t_X4_hasNameTwice_51 hd hk2 H
    · replace H := ite_p H c11
      obtain ⟨v12, ev12, H⟩ := nm_o H
      refine x_iinc (v := v12) (lv' := [(3, .int v12), (0, .ref x0), (1, .int x1), (2, .int x2)]) dX4_hasNameTwice_45 3 rfl (by decide) ev12 rfl ?_
      refine x_goto (tgt := 14) dX4_hasNameTwice_48 (by decide) ?_
      refine Ex.sub [1, 2, 3, 0] rfl ?_
      exact hk14 H
def f_X4_hasNameTwice_14 (k2 : Nat → Int32 → Int32 → aH → Option (Int32 × aH)) : Nat → Nat → Int32 → Int32 → Int32 → aH → Option (Int32 × aH)
  | 0 => fun _ _ _ _ _ => none
  | n + 1 => b_X4_hasNameTwice_14 k2 (f_X4_hasNameTwice_14 k2 n)
set_option maxRecDepth 100000 in
set_option maxHeartbeats 4000000 in
theorem t_X4_hasNameTwice_14 {Γ : gS} {d : Nat} (hd : 0 ≤ d) {k2 : Nat → Int32 → Int32 → aH → Option (Int32 × aH)} (hk2 : ∀ {x0 : Nat} {x1 : Int32} {x2 : Int32} {h : aH} {r : Int32} {h' : aH}, k2 x0 x1 x2 h = some (r, h') → Ex Γ gX4_hasNameTwice d 2 [(0, .ref x0), (1, .int x1), (2, .int x2)] [] h (some (.int r)) h') (n : Nat) : ∀ {x0 : Nat} {x1 : Int32} {x2 : Int32} {x3 : Int32} {h : aH} {r : Int32} {h' : aH}, f_X4_hasNameTwice_14 k2 n x0 x1 x2 x3 h = some (r, h') → Ex Γ gX4_hasNameTwice d 14 [(0, .ref x0), (1, .int x1), (2, .int x2), (3, .int x3)] [] h (some (.int r)) h' := by
  induction n with
  | zero => intro x0 x1 x2 x3 h r h' H; cases H
  | succ n ih => intro x0 x1 x2 x3 h r h' H; exact tb_X4_hasNameTwice_14 hd hk2 ih H
def f_X4_hasNameTwice_65 (h : aH) : Option (Int32 × aH) :=
  some (0, h)
set_option maxRecDepth 100000 in
set_option maxHeartbeats 4000000 in
theorem t_X4_hasNameTwice_65 {Γ : gS} {d : Nat} (hd : 0 ≤ d) {h : aH} {r : Int32} {h' : aH} (H : f_X4_hasNameTwice_65 h = some (r, h')) : Ex Γ gX4_hasNameTwice d 65 [] [] h (some (.int r)) h' := by
  unfold f_X4_hasNameTwice_65 at H
  refine x_iconst (v := 0) dX4_hasNameTwice_65 (by decide) ?_
  obtain ⟨rfl, rfl⟩ := so_1 H
  exact x_iret dX4_hasNameTwice_66 rfl (by decide)
def b_X4_hasNameTwice_2 (k2 : Nat → Int32 → Int32 → aH → Option (Int32 × aH)) (x0 : Nat) (x1 : Int32) (x2 : Int32) (h : aH) : Option (Int32 × aH) :=
  if x1 ≤ x2 then
    f_X4_hasNameTwice_65 h
  else
    if 4 ≤ x1 then
      f_X4_hasNameTwice_65 h
    else
      f_X4_hasNameTwice_14 k2 FU x0 x1 x2 0 h
set_option maxRecDepth 100000 in
set_option maxHeartbeats 4000000 in
theorem tb_X4_hasNameTwice_2 {Γ : gS} {d : Nat} (hd : 0 ≤ d) {k2 : Nat → Int32 → Int32 → aH → Option (Int32 × aH)} (hk2 : ∀ {x0 : Nat} {x1 : Int32} {x2 : Int32} {h : aH} {r : Int32} {h' : aH}, k2 x0 x1 x2 h = some (r, h') → Ex Γ gX4_hasNameTwice d 2 [(0, .ref x0), (1, .int x1), (2, .int x2)] [] h (some (.int r)) h') {x0 : Nat} {x1 : Int32} {x2 : Int32} {h : aH} {r : Int32} {h' : aH} (H : b_X4_hasNameTwice_2 k2 x0 x1 x2 h = some (r, h')) : Ex Γ gX4_hasNameTwice d 2 [(0, .ref x0), (1, .int x1), (2, .int x2)] [] h (some (.int r)) h' := by
  unfold b_X4_hasNameTwice_2 at H
  refine x_iload_n dX4_hasNameTwice_2 rfl 2 rfl ?_
  refine x_iload_n dX4_hasNameTwice_3 rfl 1 rfl ?_
  refine x_icmp_ge (tgt := 65) dX4_hasNameTwice_4 (by decide) (fun c13 => ?_) (fun c13 => ?_)
  · replace H := ite_p H c13
    refine Ex.sub [] rfl ?_
    exact t_X4_hasNameTwice_65 hd H
  · replace H := ite_m H c13
    refine x_iload_n dX4_hasNameTwice_7 rfl 1 rfl ?_
    refine x_iconst (v := 4) dX4_hasNameTwice_8 (by decide) ?_
    refine x_icmp_ge (tgt := 65) dX4_hasNameTwice_9 (by decide) (fun c14 => ?_) (fun c14 => ?_)
    · replace H := ite_p H c14
      refine Ex.sub [] rfl ?_
      exact t_X4_hasNameTwice_65 hd H
    · replace H := ite_m H c14
      refine x_iconst (v := 0) dX4_hasNameTwice_12 (by decide) ?_
      refine x_istore_n (lv' := [(3, .int 0), (0, .ref x0), (1, .int x1), (2, .int x2)]) dX4_hasNameTwice_13 rfl (by decide) rfl rfl ?_
      refine Ex.sub [1, 2, 3, 0] rfl ?_
      exact t_X4_hasNameTwice_14 hd hk2 FU H
def f_X4_hasNameTwice_2 : Nat → Nat → Int32 → Int32 → aH → Option (Int32 × aH)
  | 0 => fun _ _ _ _ => none
  | n + 1 => b_X4_hasNameTwice_2 (f_X4_hasNameTwice_2 n)
set_option maxRecDepth 100000 in
set_option maxHeartbeats 4000000 in
theorem t_X4_hasNameTwice_2 {Γ : gS} {d : Nat} (hd : 0 ≤ d) (n : Nat) : ∀ {x0 : Nat} {x1 : Int32} {x2 : Int32} {h : aH} {r : Int32} {h' : aH}, f_X4_hasNameTwice_2 n x0 x1 x2 h = some (r, h') → Ex Γ gX4_hasNameTwice d 2 [(0, .ref x0), (1, .int x1), (2, .int x2)] [] h (some (.int r)) h' := by
  induction n with
  | zero => intro x0 x1 x2 h r h' H; cases H
  | succ n ih => intro x0 x1 x2 h r h' H; exact tb_X4_hasNameTwice_2 hd ih H
def f_X4_hasNameTwice (x0 : Nat) (x1 : Int32) (h : aH) : Option (Int32 × aH) :=
  f_X4_hasNameTwice_2 FU x0 x1 0 h
set_option maxRecDepth 100000 in
set_option maxHeartbeats 4000000 in
theorem t_X4_hasNameTwice {Γ : gS} {d : Nat} (hd : 0 ≤ d) {x0 : Nat} {x1 : Int32} {h : aH} {r : Int32} {h' : aH} (H : f_X4_hasNameTwice x0 x1 h = some (r, h')) : Mx Γ gX4_hasNameTwice d [.ref x0, .int x1] h (some (.int r)) h' := by
  refine Mx.of (by decide +kernel) (Nat.le_of_ble_eq_true rfl) ?_
  unfold f_X4_hasNameTwice at H
  show Ex Γ gX4_hasNameTwice d 0 [(0, .ref x0), (1, .int x1)] [] h (some (.int r)) h'
  refine x_iconst (v := 0) dX4_hasNameTwice_0 (by decide) ?_
  refine x_istore_n (lv' := [(2, .int 0), (0, .ref x0), (1, .int x1)]) dX4_hasNameTwice_1 rfl (by decide) rfl rfl ?_
  refine Ex.sub [1, 2, 0] rfl ?_
  exact t_X4_hasNameTwice_2 hd FU H
def f_X4_addNumber_32 (h : aH) : Option (Unit × aH) :=
  some ((), h)
set_option maxRecDepth 100000 in
set_option maxHeartbeats 4000000 in
theorem t_X4_addNumber_32 {Γ : gS} {d : Nat} (hd : 0 ≤ d) {h : aH} {r : Unit} {h' : aH} (H : f_X4_addNumber_32 h = some (r, h')) : Ex Γ gX4_addNumber d 32 [] [] h none h' := by
  unfold f_X4_addNumber_32 at H
  obtain ⟨-, rfl⟩ := so_1 H
  exact x_vret dX4_addNumber_32 rfl
def f_X4_addNumber (x0 : Nat) (x1 : Int32) (h : aH) : Option (Unit × aH) :=
  ko h x0 4 <|
  kr (hR h x0 6) fun a2 =>
  ka h a2 .int fun n5 =>
  if (Int32.ofNat n5) ≤ (hI h x0 9) then
    f_X4_addNumber_32 h
  else
    chk (inb (hI h x0 9) n5 = true) <|
    nm (hI (sI h a2 (hI h x0 9 : Int32).toNatClampNeg x1) x0 9) fun (v8 : Int32) =>
    f_X4_addNumber_32 (sI (sI h a2 (hI h x0 9 : Int32).toNatClampNeg x1) x0 9 (v8 + 1))
set_option maxRecDepth 100000 in
set_option maxHeartbeats 4000000 in
theorem t_X4_addNumber {Γ : gS} {d : Nat} (hd : 0 ≤ d) {x0 : Nat} {x1 : Int32} {h : aH} {r : Unit} {h' : aH} (H : f_X4_addNumber x0 x1 h = some (r, h')) : Mx Γ gX4_addNumber d [.ref x0, .int x1] h none h' := by
  refine Mx.of (by decide +kernel) (Nat.le_of_ble_eq_true rfl) ?_
  unfold f_X4_addNumber at H
  show Ex Γ gX4_addNumber d 0 [(0, .ref x0), (1, .int x1)] [] h none h'
  refine x_aload_n dX4_addNumber_0 rfl 0 rfl ?_
  obtain ⟨c1, H⟩ := ko_o H
  refine x_getI fr_X4_41 dX4_addNumber_1 c1 rfl ?_
  refine x_aload_n dX4_addNumber_4 rfl 0 rfl ?_
  obtain ⟨a2, c3, H⟩ := kr_o H
  refine x_getR fr_X4_32 dX4_addNumber_5 c1 rfl c3 ?_
  obtain ⟨n5, c4, H⟩ := ka_o H
  refine x_alen dX4_addNumber_8 c4 (by decide) ?_
  refine x_icmp_ge (tgt := 32) dX4_addNumber_9 (by decide) (fun c6 => ?_) (fun c6 => ?_)
  · replace H := ite_p H c6
    refine Ex.sub [] rfl ?_
    exact t_X4_addNumber_32 hd H
  · replace H := ite_m H c6
    refine x_aload_n dX4_addNumber_12 rfl 0 rfl ?_
    refine x_getR fr_X4_32 dX4_addNumber_13 c1 rfl c3 ?_
    refine x_aload_n dX4_addNumber_16 rfl 0 rfl ?_
    refine x_getI fr_X4_41 dX4_addNumber_17 c1 rfl ?_
    refine x_iload_n dX4_addNumber_20 rfl 1 rfl ?_
    obtain ⟨c7, H⟩ := chk_o H
    refine x_iast dX4_addNumber_21 c4 (inb_in.mp c7) ?_
    refine x_aload_n dX4_addNumber_22 rfl 0 rfl ?_
    refine x_dup dX4_addNumber_23 rfl ?_
    obtain ⟨v8, ev8, H⟩ := nm_o H
    refine x_getIe fr_X4_41 dX4_addNumber_24 c1 rfl ev8 ?_
    refine x_iconst (v := 1) dX4_addNumber_27 (by decide) ?_
    refine x_iadd dX4_addNumber_28 ?_
    refine x_putI fl_X4_41 dX4_addNumber_29 c1 (fun e => by cases e) rfl ?_
    refine Ex.sub [] rfl ?_
    exact t_X4_addNumber_32 hd H
def f_X4_addOperation (x0 : Nat) (x1 : Int32) (h : aH) : Option (Unit × aH) :=
  ko h x0 4 <|
  bd (f_X4_addNumber x0 ((-1) - x1) h) fun _ h2 =>
  some ((), h2)
set_option maxRecDepth 100000 in
set_option maxHeartbeats 4000000 in
theorem t_X4_addOperation {Γ : gS} {d : Nat} (hd : 1 ≤ d) {x0 : Nat} {x1 : Int32} {h : aH} {r : Unit} {h' : aH} (H : f_X4_addOperation x0 x1 h = some (r, h')) : Mx Γ gX4_addOperation d [.ref x0, .int x1] h none h' := by
  refine Mx.of (by decide +kernel) (Nat.le_of_ble_eq_true rfl) ?_
  unfold f_X4_addOperation at H
  show Ex Γ gX4_addOperation d 0 [(0, .ref x0), (1, .int x1)] [] h none h'
  obtain ⟨d, rfl⟩ : ∃ e, d = e + 1 := ⟨d - 1, by omega⟩
  refine x_aload_n dX4_addOperation_0 rfl 0 rfl ?_
  refine x_iconst (v := (-1)) dX4_addOperation_1 (by decide) ?_
  refine x_iload_n dX4_addOperation_2 rfl 1 rfl ?_
  refine x_isub dX4_addOperation_3 ?_
  obtain ⟨c4, H⟩ := ko_o H
  obtain ⟨v1, h2, hc3, H⟩ := bd_o H
  refine x_callVv (As := [.int ((-1) - x1)]) (q := (RX4, TX4, 10)) dX4_addOperation_4 mi_X4_addNumber lk_X4_53 im_X4_addNumber se_X4_addNumber rfl c4 rfl rfl (Nat.le_of_ble_eq_true rfl) (t_X4_addNumber (by omega) hc3) ?_
  obtain ⟨-, rfl⟩ := so_1 H
  exact x_vret dX4_addOperation_7 rfl
def f_X4_beginFormula_23 (h : aH) : Option (Unit × aH) :=
  some ((), h)
set_option maxRecDepth 100000 in
set_option maxHeartbeats 4000000 in
theorem t_X4_beginFormula_23 {Γ : gS} {d : Nat} (hd : 0 ≤ d) {h : aH} {r : Unit} {h' : aH} (H : f_X4_beginFormula_23 h = some (r, h')) : Ex Γ gX4_beginFormula d 23 [] [] h none h' := by
  unfold f_X4_beginFormula_23 at H
  obtain ⟨-, rfl⟩ := so_1 H
  exact x_vret dX4_beginFormula_23 rfl
def f_X4_beginFormula (x0 : Nat) (x1 : Int32) (h : aH) : Option (Unit × aH) :=
  if x1 < 0 then
    f_X4_beginFormula_23 h
  else
    ko h x0 4 <|
    kr (hR h x0 7) fun a3 =>
    ka h a3 .int fun n6 =>
    if (Int32.ofNat n6) ≤ x1 then
      f_X4_beginFormula_23 h
    else
      chk (inb x1 n6 = true) <|
      f_X4_beginFormula_23 (sI h a3 x1.toNatClampNeg (hI h x0 9))
set_option maxRecDepth 100000 in
set_option maxHeartbeats 4000000 in
theorem t_X4_beginFormula {Γ : gS} {d : Nat} (hd : 0 ≤ d) {x0 : Nat} {x1 : Int32} {h : aH} {r : Unit} {h' : aH} (H : f_X4_beginFormula x0 x1 h = some (r, h')) : Mx Γ gX4_beginFormula d [.ref x0, .int x1] h none h' := by
  refine Mx.of (by decide +kernel) (Nat.le_of_ble_eq_true rfl) ?_
  unfold f_X4_beginFormula at H
  show Ex Γ gX4_beginFormula d 0 [(0, .ref x0), (1, .int x1)] [] h none h'
  refine x_iload_n dX4_beginFormula_0 rfl 1 rfl ?_
  refine x_if_lt (tgt := 23) dX4_beginFormula_1 (by decide) (fun c1 => ?_) (fun c1 => ?_)
  · replace H := ite_p H c1
    refine Ex.sub [] rfl ?_
    exact t_X4_beginFormula_23 hd H
  · replace H := ite_m H c1
    refine x_iload_n dX4_beginFormula_4 rfl 1 rfl ?_
    refine x_aload_n dX4_beginFormula_5 rfl 0 rfl ?_
    obtain ⟨c2, H⟩ := ko_o H
    obtain ⟨a3, c4, H⟩ := kr_o H
    refine x_getR fr_X4_35 dX4_beginFormula_6 c2 rfl c4 ?_
    obtain ⟨n6, c5, H⟩ := ka_o H
    refine x_alen dX4_beginFormula_9 c5 (by decide) ?_
    refine x_icmp_ge (tgt := 23) dX4_beginFormula_10 (by decide) (fun c7 => ?_) (fun c7 => ?_)
    · replace H := ite_p H c7
      refine Ex.sub [] rfl ?_
      exact t_X4_beginFormula_23 hd H
    · replace H := ite_m H c7
      refine x_aload_n dX4_beginFormula_13 rfl 0 rfl ?_
      refine x_getR fr_X4_35 dX4_beginFormula_14 c2 rfl c4 ?_
      refine x_iload_n dX4_beginFormula_17 rfl 1 rfl ?_
      refine x_aload_n dX4_beginFormula_18 rfl 0 rfl ?_
      refine x_getI fr_X4_41 dX4_beginFormula_19 c2 rfl ?_
      obtain ⟨c8, H⟩ := chk_o H
      refine x_iast dX4_beginFormula_22 c5 (inb_in.mp c8) ?_
      refine Ex.sub [] rfl ?_
      exact t_X4_beginFormula_23 hd H
def f_X4_endFormula_23 (h : aH) : Option (Unit × aH) :=
  some ((), h)
set_option maxRecDepth 100000 in
set_option maxHeartbeats 4000000 in
theorem t_X4_endFormula_23 {Γ : gS} {d : Nat} (hd : 0 ≤ d) {h : aH} {r : Unit} {h' : aH} (H : f_X4_endFormula_23 h = some (r, h')) : Ex Γ gX4_endFormula d 23 [] [] h none h' := by
  unfold f_X4_endFormula_23 at H
  obtain ⟨-, rfl⟩ := so_1 H
  exact x_vret dX4_endFormula_23 rfl
def f_X4_endFormula (x0 : Nat) (x1 : Int32) (h : aH) : Option (Unit × aH) :=
  if x1 < 0 then
    f_X4_endFormula_23 h
  else
    ko h x0 4 <|
    kr (hR h x0 8) fun a3 =>
    ka h a3 .int fun n6 =>
    if (Int32.ofNat n6) ≤ x1 then
      f_X4_endFormula_23 h
    else
      chk (inb x1 n6 = true) <|
      f_X4_endFormula_23 (sI h a3 x1.toNatClampNeg (hI h x0 9))
set_option maxRecDepth 100000 in
set_option maxHeartbeats 4000000 in
theorem t_X4_endFormula {Γ : gS} {d : Nat} (hd : 0 ≤ d) {x0 : Nat} {x1 : Int32} {h : aH} {r : Unit} {h' : aH} (H : f_X4_endFormula x0 x1 h = some (r, h')) : Mx Γ gX4_endFormula d [.ref x0, .int x1] h none h' := by
  refine Mx.of (by decide +kernel) (Nat.le_of_ble_eq_true rfl) ?_
  unfold f_X4_endFormula at H
  show Ex Γ gX4_endFormula d 0 [(0, .ref x0), (1, .int x1)] [] h none h'
  refine x_iload_n dX4_endFormula_0 rfl 1 rfl ?_
  refine x_if_lt (tgt := 23) dX4_endFormula_1 (by decide) (fun c1 => ?_) (fun c1 => ?_)
  · replace H := ite_p H c1
    refine Ex.sub [] rfl ?_
    exact t_X4_endFormula_23 hd H
  · replace H := ite_m H c1
    refine x_iload_n dX4_endFormula_4 rfl 1 rfl ?_
    refine x_aload_n dX4_endFormula_5 rfl 0 rfl ?_
    obtain ⟨c2, H⟩ := ko_o H
    obtain ⟨a3, c4, H⟩ := kr_o H
    refine x_getR fr_X4_38 dX4_endFormula_6 c2 rfl c4 ?_
    obtain ⟨n6, c5, H⟩ := ka_o H
    refine x_alen dX4_endFormula_9 c5 (by decide) ?_
    refine x_icmp_ge (tgt := 23) dX4_endFormula_10 (by decide) (fun c7 => ?_) (fun c7 => ?_)
    · replace H := ite_p H c7
      refine Ex.sub [] rfl ?_
      exact t_X4_endFormula_23 hd H
    · replace H := ite_m H c7
      refine x_aload_n dX4_endFormula_13 rfl 0 rfl ?_
      refine x_getR fr_X4_38 dX4_endFormula_14 c2 rfl c4 ?_
      refine x_iload_n dX4_endFormula_17 rfl 1 rfl ?_
      refine x_aload_n dX4_endFormula_18 rfl 0 rfl ?_
      refine x_getI fr_X4_41 dX4_endFormula_19 c2 rfl ?_
      obtain ⟨c8, H⟩ := chk_o H
      refine x_iast dX4_endFormula_22 c5 (inb_in.mp c8) ?_
      refine Ex.sub [] rfl ?_
      exact t_X4_endFormula_23 hd H
def f_X4_hasFormula_33 (s0 : Int32) (h : aH) : Option (Int32 × aH) :=
  chk (narrow .boolean (.int s0) = .int s0) <|
  some (s0, h)
set_option maxRecDepth 100000 in
set_option maxHeartbeats 4000000 in
theorem t_X4_hasFormula_33 {Γ : gS} {d : Nat} (hd : 0 ≤ d) {s0 : Int32} {h : aH} {r : Int32} {h' : aH} (H : f_X4_hasFormula_33 s0 h = some (r, h')) : Ex Γ gX4_hasFormula d 33 [] [.int s0] h (some (.int r)) h' := by
  unfold f_X4_hasFormula_33 at H
  obtain ⟨c1, H⟩ := chk_o H
  obtain ⟨rfl, rfl⟩ := so_1 H
  exact x_iret dX4_hasFormula_33 rfl c1
def f_X4_hasFormula_32 (h : aH) : Option (Int32 × aH) :=
  f_X4_hasFormula_33 0 h
set_option maxRecDepth 100000 in
set_option maxHeartbeats 4000000 in
theorem t_X4_hasFormula_32 {Γ : gS} {d : Nat} (hd : 0 ≤ d) {h : aH} {r : Int32} {h' : aH} (H : f_X4_hasFormula_32 h = some (r, h')) : Ex Γ gX4_hasFormula d 32 [] [] h (some (.int r)) h' := by
  unfold f_X4_hasFormula_32 at H
  refine x_iconst (v := 0) dX4_hasFormula_32 (by decide) ?_
  exact t_X4_hasFormula_33 hd H
def f_X4_hasFormula (x0 : Nat) (x1 : Int32) (h : aH) : Option (Int32 × aH) :=
  if x1 < 0 then
    f_X4_hasFormula_32 h
  else
    ko h x0 4 <|
    kr (hR h x0 8) fun a4 =>
    ka h a4 .int fun n7 =>
    if (Int32.ofNat n7) ≤ x1 then
      f_X4_hasFormula_32 h
    else
      chk (inb x1 n7 = true) <|
      kr (hR h x0 7) fun a10 =>
      ka h a10 .int fun n13 =>
      chk (inb x1 n13 = true) <|
      if (hI h a4 x1.toNatClampNeg) ≤ (hI h a10 x1.toNatClampNeg) then
        f_X4_hasFormula_32 h
      else
        f_X4_hasFormula_33 1 h
set_option maxRecDepth 100000 in
set_option maxHeartbeats 4000000 in
theorem t_X4_hasFormula {Γ : gS} {d : Nat} (hd : 0 ≤ d) {x0 : Nat} {x1 : Int32} {h : aH} {r : Int32} {h' : aH} (H : f_X4_hasFormula x0 x1 h = some (r, h')) : Mx Γ gX4_hasFormula d [.ref x0, .int x1] h (some (.int r)) h' := by
  refine Mx.of (by decide +kernel) (Nat.le_of_ble_eq_true rfl) ?_
  unfold f_X4_hasFormula at H
  show Ex Γ gX4_hasFormula d 0 [(0, .ref x0), (1, .int x1)] [] h (some (.int r)) h'
  refine x_iload_n dX4_hasFormula_0 rfl 1 rfl ?_
  refine x_if_lt (tgt := 32) dX4_hasFormula_1 (by decide) (fun c2 => ?_) (fun c2 => ?_)
  · replace H := ite_p H c2
    refine Ex.sub [] rfl ?_
    exact t_X4_hasFormula_32 hd H
  · replace H := ite_m H c2
    refine x_iload_n dX4_hasFormula_4 rfl 1 rfl ?_
    refine x_aload_n dX4_hasFormula_5 rfl 0 rfl ?_
    obtain ⟨c3, H⟩ := ko_o H
    obtain ⟨a4, c5, H⟩ := kr_o H
    refine x_getR fr_X4_38 dX4_hasFormula_6 c3 rfl c5 ?_
    obtain ⟨n7, c6, H⟩ := ka_o H
    refine x_alen dX4_hasFormula_9 c6 (by decide) ?_
    refine x_icmp_ge (tgt := 32) dX4_hasFormula_10 (by decide) (fun c8 => ?_) (fun c8 => ?_)
    · replace H := ite_p H c8
      refine Ex.sub [] rfl ?_
      exact t_X4_hasFormula_32 hd H
    · replace H := ite_m H c8
      refine x_aload_n dX4_hasFormula_13 rfl 0 rfl ?_
      refine x_getR fr_X4_38 dX4_hasFormula_14 c3 rfl c5 ?_
      refine x_iload_n dX4_hasFormula_17 rfl 1 rfl ?_
      obtain ⟨c9, H⟩ := chk_o H
      refine x_iald dX4_hasFormula_18 c6 (inb_in.mp c9) ?_
      refine x_aload_n dX4_hasFormula_19 rfl 0 rfl ?_
      obtain ⟨a10, c11, H⟩ := kr_o H
      refine x_getR fr_X4_35 dX4_hasFormula_20 c3 rfl c11 ?_
      refine x_iload_n dX4_hasFormula_23 rfl 1 rfl ?_
      obtain ⟨n13, c12, H⟩ := ka_o H
      obtain ⟨c14, H⟩ := chk_o H
      refine x_iald dX4_hasFormula_24 c12 (inb_in.mp c14) ?_
      refine x_icmp_le (tgt := 32) dX4_hasFormula_25 (by decide) (fun c15 => ?_) (fun c15 => ?_)
      · replace H := ite_p H c15
        refine Ex.sub [] rfl ?_
        exact t_X4_hasFormula_32 hd H
      · replace H := ite_m H c15
        refine x_iconst (v := 1) dX4_hasFormula_28 (by decide) ?_
        refine x_goto (tgt := 33) dX4_hasFormula_29 (by decide) ?_
        refine Ex.sub [] rfl ?_
        exact t_X4_hasFormula_33 hd H
def f_X8_init (x0 : Nat) (h : aH) : Option (Unit × aH) :=
  ko h x0 8 <|
  nm (hN (sI (sI (sI h x0 0 0) x0 1 0) x0 2 0)) fun (a3 : Nat) =>
  nm (nw (sI (sI (sI h x0 0 0) x0 1 0) x0 2 0) (.inr (.int, 16)) 16) fun (h2 : aH) =>
  ko h2 x0 8 <|
  nm (hN (sR h2 x0 3 (some a3))) fun (a6 : Nat) =>
  nm (nw (sR h2 x0 3 (some a3)) (.inr (.boolean, 16)) 16) fun (h5 : aH) =>
  ko h5 x0 8 <|
  some ((), sI (sI (sR h5 x0 4 (some a6)) x0 5 0) x0 6 0)
set_option maxRecDepth 100000 in
set_option maxHeartbeats 4000000 in
theorem t_X8_init {Γ : gS} {d : Nat} (hd : 1 ≤ d) {x0 : Nat} {h : aH} {r : Unit} {h' : aH} (H : f_X8_init x0 h = some (r, h')) : Mx Γ gX8_init d [.ref x0] h none h' := by
  refine Mx.of (by decide +kernel) (Nat.le_of_ble_eq_true rfl) ?_
  unfold f_X8_init at H
  show Ex Γ gX8_init d 0 [(0, .ref x0)] [] h none h'
  obtain ⟨d, rfl⟩ : ∃ e, d = e + 1 := ⟨d - 1, by omega⟩
  refine x_aload_n dX8_init_0 rfl 0 rfl ?_
  refine x_oinit dX8_init_1 lk_X8_3 im_obj co_obj (Nat.le_of_ble_eq_true rfl) ?_
  refine x_aload_n dX8_init_4 rfl 0 rfl ?_
  refine x_iconst (v := 0) dX8_init_5 (by decide) ?_
  obtain ⟨c1, H⟩ := ko_o H
  refine x_putI fl_X8_9 dX8_init_6 c1 (fun e => by cases e) rfl ?_
  refine x_aload_n dX8_init_9 rfl 0 rfl ?_
  refine x_iconst (v := 0) dX8_init_10 (by decide) ?_
  refine x_putI fl_X8_15 dX8_init_11 c1 (fun e => by cases e) rfl ?_
  refine x_aload_n dX8_init_14 rfl 0 rfl ?_
  refine x_iconst (v := 0) dX8_init_15 (by decide) ?_
  refine x_putI fl_X8_18 dX8_init_16 c1 (fun e => by cases e) rfl ?_
  refine x_aload_n dX8_init_19 rfl 0 rfl ?_
  refine x_bipush (v := 16) dX8_init_20 (by decide) ?_
  obtain ⟨a3, ea3, H⟩ := nm_o H
  obtain ⟨h2, eh2, H⟩ := nm_o H
  refine x_newa (t := .int) (N := 16) dX8_init_22 rfl (by decide) rfl ac_int (by decide) (by decide) (by decide) ?_
  rw [ea3]
  refine Ex.ren eh2 ?_
  obtain ⟨c4, H⟩ := ko_o H
  refine x_putR fl_X8_21 dX8_init_24 c4 (fun _ => rfl) rfl ?_
  refine x_aload_n dX8_init_27 rfl 0 rfl ?_
  refine x_bipush (v := 16) dX8_init_28 (by decide) ?_
  obtain ⟨a6, ea6, H⟩ := nm_o H
  obtain ⟨h5, eh5, H⟩ := nm_o H
  refine x_newa (t := .boolean) (N := 16) dX8_init_30 rfl (by decide) rfl ac_boolean (by decide) (by decide) (by decide) ?_
  rw [ea6]
  refine Ex.ren eh5 ?_
  obtain ⟨c7, H⟩ := ko_o H
  refine x_putR fl_X8_25 dX8_init_32 c7 (fun _ => rfl) rfl ?_
  refine x_aload_n dX8_init_35 rfl 0 rfl ?_
  refine x_iconst (v := 0) dX8_init_36 (by decide) ?_
  refine x_putI fl_X8_29 dX8_init_37 c7 (fun e => by cases e) rfl ?_
  refine x_aload_n dX8_init_40 rfl 0 rfl ?_
  refine x_iconst (v := 0) dX8_init_41 (by decide) ?_
  refine x_putI fl_X8_32 dX8_init_42 c7 (fun e => by cases e) rfl ?_
  obtain ⟨-, rfl⟩ := so_1 H
  exact x_vret dX8_init_45 rfl
def f_X8_clear (x0 : Nat) (h : aH) : Option (Unit × aH) :=
  ko h x0 8 <|
  some ((), sI h x0 0 0)
set_option maxRecDepth 100000 in
set_option maxHeartbeats 4000000 in
theorem t_X8_clear {Γ : gS} {d : Nat} (hd : 0 ≤ d) {x0 : Nat} {h : aH} {r : Unit} {h' : aH} (H : f_X8_clear x0 h = some (r, h')) : Mx Γ gX8_clear d [.ref x0] h none h' := by
  refine Mx.of (by decide +kernel) (Nat.le_of_ble_eq_true rfl) ?_
  unfold f_X8_clear at H
  show Ex Γ gX8_clear d 0 [(0, .ref x0)] [] h none h'
  refine x_aload_n dX8_clear_0 rfl 0 rfl ?_
  refine x_iconst (v := 0) dX8_clear_1 (by decide) ?_
  obtain ⟨c1, H⟩ := ko_o H
  refine x_putI fl_X8_9 dX8_clear_2 c1 (fun e => by cases e) rfl ?_
  obtain ⟨-, rfl⟩ := so_1 H
  exact x_vret dX8_clear_5 rfl
def f_X8_look_23 (h : aH) : Option (Int32 × aH) :=
  some (0, h)
set_option maxRecDepth 100000 in
set_option maxHeartbeats 4000000 in
theorem t_X8_look_23 {Γ : gS} {d : Nat} (hd : 0 ≤ d) {h : aH} {r : Int32} {h' : aH} (H : f_X8_look_23 h = some (r, h')) : Ex Γ gX8_look d 23 [] [] h (some (.int r)) h' := by
  unfold f_X8_look_23 at H
  refine x_iconst (v := 0) dX8_look_23 (by decide) ?_
  obtain ⟨rfl, rfl⟩ := so_1 H
  exact x_iret dX8_look_24 rfl (by decide)
def f_X8_look_55 (h : aH) : Option (Int32 × aH) :=
  some (0, h)
set_option maxRecDepth 100000 in
set_option maxHeartbeats 4000000 in
theorem t_X8_look_55 {Γ : gS} {d : Nat} (hd : 0 ≤ d) {h : aH} {r : Int32} {h' : aH} (H : f_X8_look_55 h = some (r, h')) : Ex Γ gX8_look d 55 [] [] h (some (.int r)) h' := by
  unfold f_X8_look_55 at H
  refine x_iconst (v := 0) dX8_look_55 (by decide) ?_
  obtain ⟨rfl, rfl⟩ := so_1 H
  exact x_iret dX8_look_56 rfl (by decide)
def f_X8_look_115 (k72 : Nat → Nat → Int32 → aH → Option (Int32 × aH)) (x0 : Nat) (x1 : Nat) (x3 : Int32) (s0 : Nat) (s1 : Int32) (s2 : Int32) (h : aH) : Option (Int32 × aH) :=
  ka h s0 .boolean fun n2 =>
  chk (inb s1 n2 = true) <|
  nm (x3 + 1) fun (v4 : Int32) =>
  k72 x0 x1 v4 (sI h s0 s1.toNatClampNeg (s2 &&& 1))
set_option maxRecDepth 100000 in
set_option maxHeartbeats 4000000 in
theorem t_X8_look_115 {Γ : gS} {d : Nat} (hd : 0 ≤ d) {k72 : Nat → Nat → Int32 → aH → Option (Int32 × aH)} (hk72 : ∀ {x0 : Nat} {x1 : Nat} {x3 : Int32} {h : aH} {r : Int32} {h' : aH}, k72 x0 x1 x3 h = some (r, h') → Ex Γ gX8_look d 72 [(0, .ref x0), (1, .ref x1), (3, .int x3)] [] h (some (.int r)) h') {x0 : Nat} {x1 : Nat} {x3 : Int32} {s0 : Nat} {s1 : Int32} {s2 : Int32} {h : aH} {r : Int32} {h' : aH} (H : f_X8_look_115 k72 x0 x1 x3 s0 s1 s2 h = some (r, h')) : Ex Γ gX8_look d 115 [(0, .ref x0), (1, .ref x1), (3, .int x3)] [.int s2, .int s1, .ref s0] h (some (.int r)) h' := by
  unfold f_X8_look_115 at H
  obtain ⟨n2, c1, H⟩ := ka_o H
  obtain ⟨c3, H⟩ := chk_o H
  refine x_zast dX8_look_115 c1 (inb_in.mp c3) ?_
  obtain ⟨v4, ev4, H⟩ := nm_o H
  refine x_iinc (v := v4) (lv' := [(3, .int v4), (0, .ref x0), (1, .ref x1)]) dX8_look_116 2 rfl (by decide) ev4 rfl ?_
  refine x_goto (tgt := 72) dX8_look_119 (by decide) ?_
  refine Ex.sub [1, 2, 0] rfl ?_
  exact hk72 H
def b_X8_look_72 (k72 : Nat → Nat → Int32 → aH → Option (Int32 × aH)) (x0 : Nat) (x1 : Nat) (x3 : Int32) (h : aH) : Option (Int32 × aH) :=
  ko h x0 8 <|
  if (hI h x0 0) ≤ x3 then
    some (1, h)
  else
    kr (hR h x0 3) fun a7 =>
    ka h x1 .byte fun n10 =>
    chk (inb (2 * x3) n10 = true) <|
    ka h a7 .int fun n13 =>
    chk (inb x3 n13 = true) <|
    kr (hR h x0 4) fun a15 =>
    chk (inb ((2 * x3) + 1) n10 = true) <|
    nm (hI (sI h a7 x3.toNatClampNeg ((hI h x1 (2 * x3 : Int32).toNatClampNeg) - 64)) x1 ((2 * x3) + 1 : Int32).toNatClampNeg) fun (v18 : Int32) =>
    if v18 = 1 then
      f_X8_look_115 k72 x0 x1 x3 a15 x3 1 (sI h a7 x3.toNatClampNeg ((hI h x1 (2 * x3 : Int32).toNatClampNeg) - 64))
    else
      f_X8_look_115 k72 x0 x1 x3 a15 x3 0 (sI h a7 x3.toNatClampNeg ((hI h x1 (2 * x3 : Int32).toNatClampNeg) - 64))
set_option maxRecDepth 100000 in
set_option maxHeartbeats 4000000 in
theorem tb_X8_look_72 {Γ : gS} {d : Nat} (hd : 0 ≤ d) {k72 : Nat → Nat → Int32 → aH → Option (Int32 × aH)} (hk72 : ∀ {x0 : Nat} {x1 : Nat} {x3 : Int32} {h : aH} {r : Int32} {h' : aH}, k72 x0 x1 x3 h = some (r, h') → Ex Γ gX8_look d 72 [(0, .ref x0), (1, .ref x1), (3, .int x3)] [] h (some (.int r)) h') {x0 : Nat} {x1 : Nat} {x3 : Int32} {h : aH} {r : Int32} {h' : aH} (H : b_X8_look_72 k72 x0 x1 x3 h = some (r, h')) : Ex Γ gX8_look d 72 [(0, .ref x0), (1, .ref x1), (3, .int x3)] [] h (some (.int r)) h' := by
  unfold b_X8_look_72 at H
  refine x_iload_n dX8_look_72 rfl 2 rfl ?_
  refine x_aload_n dX8_look_73 rfl 0 rfl ?_
  obtain ⟨c5, H⟩ := ko_o H
  refine x_getI fr_X8_9 dX8_look_74 c5 rfl ?_
  refine x_icmp_ge (tgt := 122) dX8_look_77 (by decide) (fun c6 => ?_) (fun c6 => ?_)
  · replace H := ite_p H c6
    refine x_iconst (v := 1) dX8_look_122 (by decide) ?_
    obtain ⟨rfl, rfl⟩ := so_1 H
    exact x_iret dX8_look_123 rfl (by decide)
  · replace H := ite_m H c6
    refine x_aload_n dX8_look_80 rfl 0 rfl ?_
    obtain ⟨a7, c8, H⟩ := kr_o H
    refine x_getR fr_X8_21 dX8_look_81 c5 rfl c8 ?_
    refine x_iload_n dX8_look_84 rfl 2 rfl ?_
    refine x_aload_n dX8_look_85 rfl 1 rfl ?_
    refine x_iconst (v := 2) dX8_look_86 (by decide) ?_
    refine x_iload_n dX8_look_87 rfl 2 rfl ?_
    refine x_imul dX8_look_88 ?_
    obtain ⟨n10, c9, H⟩ := ka_o H
    obtain ⟨c11, H⟩ := chk_o H
    refine x_bald dX8_look_89 c9 (inb_in.mp c11) ?_
    refine x_bipush (v := 64) dX8_look_90 (by decide) ?_
    refine x_isub dX8_look_92 ?_
    obtain ⟨n13, c12, H⟩ := ka_o H
    obtain ⟨c14, H⟩ := chk_o H
    refine x_iast dX8_look_93 c12 (inb_in.mp c14) ?_
    refine x_aload_n dX8_look_94 rfl 0 rfl ?_
    obtain ⟨a15, c16, H⟩ := kr_o H
    refine x_getR fr_X8_25 dX8_look_95 c5 rfl c16 ?_
    refine x_iload_n dX8_look_98 rfl 2 rfl ?_
    refine x_aload_n dX8_look_99 rfl 1 rfl ?_
    refine x_iconst (v := 2) dX8_look_100 (by decide) ?_
    refine x_iload_n dX8_look_101 rfl 2 rfl ?_
    refine x_imul dX8_look_102 ?_
    refine x_iconst (v := 1) dX8_look_103 (by decide) ?_
    refine x_iadd dX8_look_104 ?_
    obtain ⟨c17, H⟩ := chk_o H
    obtain ⟨v18, ev18, H⟩ := nm_o H
    refine x_balde dX8_look_105 c9 (inb_in.mp c17) ev18 ?_
    refine x_iconst (v := 1) dX8_look_106 (by decide) ?_
    refine x_icmp_ne (tgt := 114) dX8_look_107 (by decide) (fun c19 => ?_) (fun c19 => ?_)
    · replace H := ite_m H c19
      refine x_iconst (v := 0) dX8_look_114 (by decide) ?_
      exact t_X8_look_115 hd hk72 H
    · replace H := ite_p H c19
      refine x_iconst (v := 1) dX8_look_110 (by decide) ?_
      refine x_goto (tgt := 115) dX8_look_111 (by decide) ?_
      exact t_X8_look_115 hd hk72 H
def f_X8_look_72 : Nat → Nat → Nat → Int32 → aH → Option (Int32 × aH)
  | 0 => fun _ _ _ _ => none
  | n + 1 => b_X8_look_72 (f_X8_look_72 n)
set_option maxRecDepth 100000 in
set_option maxHeartbeats 4000000 in
theorem t_X8_look_72 {Γ : gS} {d : Nat} (hd : 0 ≤ d) (n : Nat) : ∀ {x0 : Nat} {x1 : Nat} {x3 : Int32} {h : aH} {r : Int32} {h' : aH}, f_X8_look_72 n x0 x1 x3 h = some (r, h') → Ex Γ gX8_look d 72 [(0, .ref x0), (1, .ref x1), (3, .int x3)] [] h (some (.int r)) h' := by
  induction n with
  | zero => intro x0 x1 x3 h r h' H; cases H
  | succ n ih => intro x0 x1 x3 h r h' H; exact tb_X8_look_72 hd ih H
def b_X8_look_27 (k27 : Nat → Nat → Int32 → Int32 → aH → Option (Int32 × aH)) (x0 : Nat) (x1 : Nat) (x2 : Int32) (x3 : Int32) (h : aH) : Option (Int32 × aH) :=
  if x2 ≤ x3 then
    ko h x0 8 <|
    f_X8_look_72 FU x0 x1 0 (sI h x0 0 (x2 / 2))
  else
    ka h x1 .byte fun n23 =>
    chk (inb x3 n23 = true) <|
    if (hI h x1 x3.toNatClampNeg) < 0 then
      f_X8_look_55 h
    else
      chk (inb (x3 + 1) n23 = true) <|
      if (hI h x1 (x3 + 1 : Int32).toNatClampNeg) < 0 then
        f_X8_look_55 h
      else
        if (hI h x1 (x3 + 1 : Int32).toNatClampNeg) ≤ 1 then
          nm (x3 + 2) fun (v29 : Int32) =>
          k27 x0 x1 x2 v29 h
        else
          f_X8_look_55 h
set_option maxRecDepth 100000 in
set_option maxHeartbeats 4000000 in
theorem tb_X8_look_27 {Γ : gS} {d : Nat} (hd : 0 ≤ d) {k27 : Nat → Nat → Int32 → Int32 → aH → Option (Int32 × aH)} (hk27 : ∀ {x0 : Nat} {x1 : Nat} {x2 : Int32} {x3 : Int32} {h : aH} {r : Int32} {h' : aH}, k27 x0 x1 x2 x3 h = some (r, h') → Ex Γ gX8_look d 27 [(0, .ref x0), (1, .ref x1), (2, .int x2), (3, .int x3)] [] h (some (.int r)) h') {x0 : Nat} {x1 : Nat} {x2 : Int32} {x3 : Int32} {h : aH} {r : Int32} {h' : aH} (H : b_X8_look_27 k27 x0 x1 x2 x3 h = some (r, h')) : Ex Γ gX8_look d 27 [(0, .ref x0), (1, .ref x1), (2, .int x2), (3, .int x3)] [] h (some (.int r)) h' := by
  unfold b_X8_look_27 at H
  refine x_iload_n dX8_look_27 rfl 3 rfl ?_
  refine x_iload_n dX8_look_28 rfl 2 rfl ?_
  refine x_icmp_ge (tgt := 63) dX8_look_29 (by decide) (fun c20 => ?_) (fun c20 => ?_)
  · replace H := ite_p H c20
    refine x_aload_n dX8_look_63 rfl 0 rfl ?_
    refine x_iload_n dX8_look_64 rfl 2 rfl ?_
    refine x_iconst (v := 2) dX8_look_65 (by decide) ?_
    refine x_idiv dX8_look_66 (by decide) ?_
    obtain ⟨c21, H⟩ := ko_o H
    refine x_putI fl_X8_9 dX8_look_67 c21 (fun e => by cases e) rfl ?_
    refine x_iconst (v := 0) dX8_look_70 (by decide) ?_
    refine x_istore_n (lv' := [(3, .int 0), (0, .ref x0), (1, .ref x1), (2, .int x2)]) dX8_look_71 rfl (by decide) rfl rfl ?_
    refine Ex.sub [1, 2, 0] rfl ?_
    exact t_X8_look_72 hd FU H
  · replace H := ite_m H c20
    refine x_aload_n dX8_look_32 rfl 1 rfl ?_
    refine x_iload_n dX8_look_33 rfl 3 rfl ?_
    obtain ⟨n23, c22, H⟩ := ka_o H
    obtain ⟨c24, H⟩ := chk_o H
    refine x_bald dX8_look_34 c22 (inb_in.mp c24) ?_
    refine x_if_lt (tgt := 55) dX8_look_35 (by decide) (fun c25 => ?_) (fun c25 => ?_)
    · replace H := ite_p H c25
      refine Ex.sub [] rfl ?_
      exact t_X8_look_55 hd H
    · replace H := ite_m H c25
      refine x_aload_n dX8_look_38 rfl 1 rfl ?_
      refine x_iload_n dX8_look_39 rfl 3 rfl ?_
      refine x_iconst (v := 1) dX8_look_40 (by decide) ?_
      refine x_iadd dX8_look_41 ?_
      obtain ⟨c26, H⟩ := chk_o H
      refine x_bald dX8_look_42 c22 (inb_in.mp c26) ?_
      refine x_if_lt (tgt := 55) dX8_look_43 (by decide) (fun c27 => ?_) (fun c27 => ?_)
      · replace H := ite_p H c27
        refine Ex.sub [] rfl ?_
        exact t_X8_look_55 hd H
      · replace H := ite_m H c27
        refine x_aload_n dX8_look_46 rfl 1 rfl ?_
        refine x_iload_n dX8_look_47 rfl 3 rfl ?_
        refine x_iconst (v := 1) dX8_look_48 (by decide) ?_
        refine x_iadd dX8_look_49 ?_
        refine x_bald dX8_look_50 c22 (inb_in.mp c26) ?_
        refine x_iconst (v := 1) dX8_look_51 (by decide) ?_
        refine x_icmp_le (tgt := 57) dX8_look_52 (by decide) (fun c28 => ?_) (fun c28 => ?_)
        · replace H := ite_p H c28
          obtain ⟨v29, ev29, H⟩ := nm_o H
          refine x_iinc (v := v29) (lv' := [(3, .int v29), (0, .ref x0), (1, .ref x1), (2, .int x2)]) dX8_look_57 3 rfl (by decide) ev29 rfl ?_
          refine x_goto (tgt := 27) dX8_look_60 (by decide) ?_
          refine Ex.sub [1, 2, 3, 0] rfl ?_
          exact hk27 H
        · replace H := ite_m H c28
          refine Ex.sub [] rfl ?_
          exact t_X8_look_55 hd H
def f_X8_look_27 : Nat → Nat → Nat → Int32 → Int32 → aH → Option (Int32 × aH)
  | 0 => fun _ _ _ _ _ => none
  | n + 1 => b_X8_look_27 (f_X8_look_27 n)
set_option maxRecDepth 100000 in
set_option maxHeartbeats 4000000 in
theorem t_X8_look_27 {Γ : gS} {d : Nat} (hd : 0 ≤ d) (n : Nat) : ∀ {x0 : Nat} {x1 : Nat} {x2 : Int32} {x3 : Int32} {h : aH} {r : Int32} {h' : aH}, f_X8_look_27 n x0 x1 x2 x3 h = some (r, h') → Ex Γ gX8_look d 27 [(0, .ref x0), (1, .ref x1), (2, .int x2), (3, .int x3)] [] h (some (.int r)) h' := by
  induction n with
  | zero => intro x0 x1 x2 x3 h r h' H; cases H
  | succ n ih => intro x0 x1 x2 x3 h r h' H; exact tb_X8_look_27 hd ih H
def f_X8_look (x0 : Nat) (x1 : Nat) (x2 : Int32) (h : aH) : Option (Int32 × aH) :=
  if x2 < 2 then
    f_X8_look_23 h
  else
    if 32 < x2 then
      f_X8_look_23 h
    else
      ka h x1 .byte fun n33 =>
      if (Int32.ofNat n33) < x2 then
        f_X8_look_23 h
      else
        if (x2 &&& 1) = 0 then
          f_X8_look_27 FU x0 x1 x2 0 h
        else
          f_X8_look_23 h
set_option maxRecDepth 100000 in
set_option maxHeartbeats 4000000 in
theorem t_X8_look {Γ : gS} {d : Nat} (hd : 0 ≤ d) {x0 : Nat} {x1 : Nat} {x2 : Int32} {h : aH} {r : Int32} {h' : aH} (H : f_X8_look x0 x1 x2 h = some (r, h')) : Mx Γ gX8_look d [.ref x0, .ref x1, .int x2] h (some (.int r)) h' := by
  refine Mx.of (by decide +kernel) (Nat.le_of_ble_eq_true rfl) ?_
  unfold f_X8_look at H
  show Ex Γ gX8_look d 0 [(0, .ref x0), (1, .ref x1), (2, .int x2)] [] h (some (.int r)) h'
  refine x_iload_n dX8_look_0 rfl 2 rfl ?_
  refine x_iconst (v := 2) dX8_look_1 (by decide) ?_
  refine x_icmp_lt (tgt := 23) dX8_look_2 (by decide) (fun c30 => ?_) (fun c30 => ?_)
  · replace H := ite_p H c30
    refine Ex.sub [] rfl ?_
    exact t_X8_look_23 hd H
  · replace H := ite_m H c30
    refine x_iload_n dX8_look_5 rfl 2 rfl ?_
    refine x_bipush (v := 32) dX8_look_6 (by decide) ?_
    refine x_icmp_gt (tgt := 23) dX8_look_8 (by decide) (fun c31 => ?_) (fun c31 => ?_)
    · replace H := ite_p H c31
      refine Ex.sub [] rfl ?_
      exact t_X8_look_23 hd H
    · replace H := ite_m H c31
      refine x_iload_n dX8_look_11 rfl 2 rfl ?_
      refine x_aload_n dX8_look_12 rfl 1 rfl ?_
      obtain ⟨n33, c32, H⟩ := ka_o H
      refine x_alen dX8_look_13 c32 (by decide) ?_
      refine x_icmp_gt (tgt := 23) dX8_look_14 (by decide) (fun c34 => ?_) (fun c34 => ?_)
      · replace H := ite_p H c34
        refine Ex.sub [] rfl ?_
        exact t_X8_look_23 hd H
      · replace H := ite_m H c34
        refine x_iload_n dX8_look_17 rfl 2 rfl ?_
        refine x_iconst (v := 1) dX8_look_18 (by decide) ?_
        refine x_iand dX8_look_19 ?_
        refine x_if_eq (tgt := 25) dX8_look_20 (by decide) (fun c35 => ?_) (fun c35 => ?_)
        · replace H := ite_p H c35
          refine x_iconst (v := 0) dX8_look_25 (by decide) ?_
          refine x_istore_n (lv' := [(3, .int 0), (0, .ref x0), (1, .ref x1), (2, .int x2)]) dX8_look_26 rfl (by decide) rfl rfl ?_
          refine Ex.sub [1, 2, 3, 0] rfl ?_
          exact t_X8_look_27 hd FU H
        · replace H := ite_m H c35
          refine Ex.sub [] rfl ?_
          exact t_X8_look_23 hd H
def f_X8_aim (x0 : Nat) (x1 : Nat) (x2 : Int32) (h : aH) : Option (Unit × aH) :=
  ko h x1 6 <|
  bd (f_X6_windowStart x1 x2 h) fun v1 h2 =>
  ko h2 x0 8 <|
  ko h2 x1 6 <|
  bd (f_X6_windowSize x1 x2 (sI h2 x0 5 v1)) fun v5 h6 =>
  ko h6 x0 8 <|
  some ((), sI h6 x0 6 v5)
set_option maxRecDepth 100000 in
set_option maxHeartbeats 4000000 in
theorem t_X8_aim {Γ : gS} {d : Nat} (hd : 3 ≤ d) {x0 : Nat} {x1 : Nat} {x2 : Int32} {h : aH} {r : Unit} {h' : aH} (H : f_X8_aim x0 x1 x2 h = some (r, h')) : Mx Γ gX8_aim d [.ref x0, .ref x1, .int x2] h none h' := by
  refine Mx.of (by decide +kernel) (Nat.le_of_ble_eq_true rfl) ?_
  unfold f_X8_aim at H
  show Ex Γ gX8_aim d 0 [(0, .ref x0), (1, .ref x1), (2, .int x2)] [] h none h'
  obtain ⟨d, rfl⟩ : ∃ e, d = e + 1 := ⟨d - 1, by omega⟩
  refine x_aload_n dX8_aim_0 rfl 0 rfl ?_
  refine x_aload_n dX8_aim_1 rfl 1 rfl ?_
  refine x_iload_n dX8_aim_2 rfl 2 rfl ?_
  obtain ⟨c10, H⟩ := ko_o H
  obtain ⟨v1, h2, hc3, H⟩ := bd_o H
  refine x_callVi (As := [.int x2]) (q := (RX6, TX6, 8)) dX8_aim_3 mi_X6_windowStart lk_X8_35 im_X6_windowStart se_X6_windowStart rfl c10 rfl rfl (Nat.le_of_ble_eq_true rfl) (t_X6_windowStart (by omega) hc3) ?_
  obtain ⟨c4, H⟩ := ko_o H
  refine x_putI fl_X8_29 dX8_aim_6 c4 (fun e => by cases e) rfl ?_
  refine x_aload_n dX8_aim_9 rfl 0 rfl ?_
  refine x_aload_n dX8_aim_10 rfl 1 rfl ?_
  refine x_iload_n dX8_aim_11 rfl 2 rfl ?_
  obtain ⟨c9, H⟩ := ko_o H
  obtain ⟨v5, h6, hc7, H⟩ := bd_o H
  refine x_callVi (As := [.int x2]) (q := (RX6, TX6, 8)) dX8_aim_12 mi_X6_windowSize lk_X8_41 im_X6_windowSize se_X6_windowSize rfl c9 rfl rfl (Nat.le_of_ble_eq_true rfl) (t_X6_windowSize (by omega) hc7) ?_
  obtain ⟨c8, H⟩ := ko_o H
  refine x_putI fl_X8_32 dX8_aim_15 c8 (fun e => by cases e) rfl ?_
  obtain ⟨-, rfl⟩ := so_1 H
  exact x_vret dX8_aim_18 rfl
def f_X8_isInside_22 (s0 : Int32) (h : aH) : Option (Int32 × aH) :=
  chk (narrow .boolean (.int s0) = .int s0) <|
  some (s0, h)
set_option maxRecDepth 100000 in
set_option maxHeartbeats 4000000 in
theorem t_X8_isInside_22 {Γ : gS} {d : Nat} (hd : 0 ≤ d) {s0 : Int32} {h : aH} {r : Int32} {h' : aH} (H : f_X8_isInside_22 s0 h = some (r, h')) : Ex Γ gX8_isInside d 22 [] [.int s0] h (some (.int r)) h' := by
  unfold f_X8_isInside_22 at H
  obtain ⟨c1, H⟩ := chk_o H
  obtain ⟨rfl, rfl⟩ := so_1 H
  exact x_iret dX8_isInside_22 rfl c1
def f_X8_isInside (x0 : Nat) (x1 : Int32) (h : aH) : Option (Int32 × aH) :=
  ko h x0 8 <|
  if (hI h x0 6) ≤ ((x1 - (hI h x0 5)) &&& 4095) then
    f_X8_isInside_22 0 h
  else
    f_X8_isInside_22 1 h
set_option maxRecDepth 100000 in
set_option maxHeartbeats 4000000 in
theorem t_X8_isInside {Γ : gS} {d : Nat} (hd : 0 ≤ d) {x0 : Nat} {x1 : Int32} {h : aH} {r : Int32} {h' : aH} (H : f_X8_isInside x0 x1 h = some (r, h')) : Mx Γ gX8_isInside d [.ref x0, .int x1] h (some (.int r)) h' := by
  refine Mx.of (by decide +kernel) (Nat.le_of_ble_eq_true rfl) ?_
  unfold f_X8_isInside at H
  show Ex Γ gX8_isInside d 0 [(0, .ref x0), (1, .int x1)] [] h (some (.int r)) h'
  refine x_iload_n dX8_isInside_0 rfl 1 rfl ?_
  refine x_aload_n dX8_isInside_1 rfl 0 rfl ?_
  obtain ⟨c2, H⟩ := ko_o H
  refine x_getI fr_X8_29 dX8_isInside_2 c2 rfl ?_
  refine x_isub dX8_isInside_5 ?_
  refine x_sipush (v := 4095) dX8_isInside_6 (by decide) ?_
  refine x_iand dX8_isInside_9 ?_
  refine x_aload_n dX8_isInside_10 rfl 0 rfl ?_
  refine x_getI fr_X8_32 dX8_isInside_11 c2 rfl ?_
  refine x_icmp_ge (tgt := 21) dX8_isInside_14 (by decide) (fun c3 => ?_) (fun c3 => ?_)
  · replace H := ite_p H c3
    refine x_iconst (v := 0) dX8_isInside_21 (by decide) ?_
    refine Ex.sub [] rfl ?_
    exact t_X8_isInside_22 hd H
  · replace H := ite_m H c3
    refine x_iconst (v := 1) dX8_isInside_17 (by decide) ?_
    refine x_goto (tgt := 22) dX8_isInside_18 (by decide) ?_
    refine Ex.sub [] rfl ?_
    exact t_X8_isInside_22 hd H
def b_X8_isPlace_12 (k12 : Nat → Int32 → Int32 → aH → Option (Int32 × aH)) (x0 : Nat) (x1 : Int32) (x2 : Int32) (h : aH) : Option (Int32 × aH) :=
  ko h x0 8 <|
  if (hI h x0 0) ≤ x2 then
    some (1, h)
  else
    kr (hR h x0 3) fun a3 =>
    ka h a3 .int fun n6 =>
    chk (inb x2 n6 = true) <|
    bd (f_X8_isInside x0 (x1 + (hI h a3 x2.toNatClampNeg)) h) fun v8 h9 =>
    ko h9 x0 8 <|
    kr (hR h9 x0 4) fun a12 =>
    ka h9 a12 .boolean fun n15 =>
    chk (inb x2 n15 = true) <|
    if v8 = (hI h9 a12 x2.toNatClampNeg) then
      nm (x2 + 1) fun (v18 : Int32) =>
      k12 x0 x1 v18 h9
    else
      some (0, h9)
set_option maxRecDepth 100000 in
set_option maxHeartbeats 4000000 in
theorem tb_X8_isPlace_12 {Γ : gS} {d : Nat} (hd : 1 ≤ d) {k12 : Nat → Int32 → Int32 → aH → Option (Int32 × aH)} (hk12 : ∀ {x0 : Nat} {x1 : Int32} {x2 : Int32} {h : aH} {r : Int32} {h' : aH}, k12 x0 x1 x2 h = some (r, h') → Ex Γ gX8_isPlace d 12 [(0, .ref x0), (1, .int x1), (2, .int x2)] [] h (some (.int r)) h') {x0 : Nat} {x1 : Int32} {x2 : Int32} {h : aH} {r : Int32} {h' : aH} (H : b_X8_isPlace_12 k12 x0 x1 x2 h = some (r, h')) : Ex Γ gX8_isPlace d 12 [(0, .ref x0), (1, .int x1), (2, .int x2)] [] h (some (.int r)) h' := by
  unfold b_X8_isPlace_12 at H
  obtain ⟨d, rfl⟩ : ∃ e, d = e + 1 := ⟨d - 1, by omega⟩
  refine x_iload_n dX8_isPlace_12 rfl 2 rfl ?_
  refine x_aload_n dX8_isPlace_13 rfl 0 rfl ?_
  obtain ⟨c1, H⟩ := ko_o H
  refine x_getI fr_X8_9 dX8_isPlace_14 c1 rfl ?_
  refine x_icmp_ge (tgt := 49) dX8_isPlace_17 (by decide) (fun c2 => ?_) (fun c2 => ?_)
  · replace H := ite_p H c2
    refine x_iconst (v := 1) dX8_isPlace_49 (by decide) ?_
    obtain ⟨rfl, rfl⟩ := so_1 H
    exact x_iret dX8_isPlace_50 rfl (by decide)
  · replace H := ite_m H c2
    refine x_aload_n dX8_isPlace_20 rfl 0 rfl ?_
    refine x_iload_n dX8_isPlace_21 rfl 1 rfl ?_
    refine x_aload_n dX8_isPlace_22 rfl 0 rfl ?_
    obtain ⟨a3, c4, H⟩ := kr_o H
    refine x_getR fr_X8_21 dX8_isPlace_23 c1 rfl c4 ?_
    refine x_iload_n dX8_isPlace_26 rfl 2 rfl ?_
    obtain ⟨n6, c5, H⟩ := ka_o H
    obtain ⟨c7, H⟩ := chk_o H
    refine x_iald dX8_isPlace_27 c5 (inb_in.mp c7) ?_
    refine x_iadd dX8_isPlace_28 ?_
    obtain ⟨v8, h9, hc10, H⟩ := bd_o H
    refine x_callVi (As := [.int (x1 + (hI h a3 x2.toNatClampNeg))]) (q := (RX8, TX8, 7)) dX8_isPlace_29 mi_X8_isInside lk_X8_44 im_X8_isInside se_X8_isInside rfl c1 rfl rfl (Nat.le_of_ble_eq_true rfl) (t_X8_isInside (by omega) hc10) ?_
    refine x_aload_n dX8_isPlace_32 rfl 0 rfl ?_
    obtain ⟨c11, H⟩ := ko_o H
    obtain ⟨a12, c13, H⟩ := kr_o H
    refine x_getR fr_X8_25 dX8_isPlace_33 c11 rfl c13 ?_
    refine x_iload_n dX8_isPlace_36 rfl 2 rfl ?_
    obtain ⟨n15, c14, H⟩ := ka_o H
    obtain ⟨c16, H⟩ := chk_o H
    refine x_zald dX8_isPlace_37 c14 (inb_in.mp c16) ?_
    refine x_icmp_eq (tgt := 43) dX8_isPlace_38 (by decide) (fun c17 => ?_) (fun c17 => ?_)
    · replace H := ite_p H c17
      obtain ⟨v18, ev18, H⟩ := nm_o H
      refine x_iinc (v := v18) (lv' := [(2, .int v18), (0, .ref x0), (1, .int x1)]) dX8_isPlace_43 2 rfl (by decide) ev18 rfl ?_
      refine x_goto (tgt := 12) dX8_isPlace_46 (by decide) ?_
      refine Ex.sub [1, 2, 0] rfl ?_
      exact hk12 H
    · replace H := ite_m H c17
      refine x_iconst (v := 0) dX8_isPlace_41 (by decide) ?_
      obtain ⟨rfl, rfl⟩ := so_1 H
      exact x_iret dX8_isPlace_42 rfl (by decide)
def f_X8_isPlace_12 : Nat → Nat → Int32 → Int32 → aH → Option (Int32 × aH)
  | 0 => fun _ _ _ _ => none
  | n + 1 => b_X8_isPlace_12 (f_X8_isPlace_12 n)
set_option maxRecDepth 100000 in
set_option maxHeartbeats 4000000 in
theorem t_X8_isPlace_12 {Γ : gS} {d : Nat} (hd : 1 ≤ d) (n : Nat) : ∀ {x0 : Nat} {x1 : Int32} {x2 : Int32} {h : aH} {r : Int32} {h' : aH}, f_X8_isPlace_12 n x0 x1 x2 h = some (r, h') → Ex Γ gX8_isPlace d 12 [(0, .ref x0), (1, .int x1), (2, .int x2)] [] h (some (.int r)) h' := by
  induction n with
  | zero => intro x0 x1 x2 h r h' H; cases H
  | succ n ih => intro x0 x1 x2 h r h' H; exact tb_X8_isPlace_12 hd ih H
def f_X8_isPlace (x0 : Nat) (x1 : Int32) (h : aH) : Option (Int32 × aH) :=
  ko h x0 8 <|
  bd (f_X8_isInside x0 x1 h) fun v19 h20 =>
  if v19 = 0 then
    some (0, h20)
  else
    f_X8_isPlace_12 FU x0 x1 0 h20
set_option maxRecDepth 100000 in
set_option maxHeartbeats 4000000 in
theorem t_X8_isPlace {Γ : gS} {d : Nat} (hd : 1 ≤ d) {x0 : Nat} {x1 : Int32} {h : aH} {r : Int32} {h' : aH} (H : f_X8_isPlace x0 x1 h = some (r, h')) : Mx Γ gX8_isPlace d [.ref x0, .int x1] h (some (.int r)) h' := by
  refine Mx.of (by decide +kernel) (Nat.le_of_ble_eq_true rfl) ?_
  unfold f_X8_isPlace at H
  show Ex Γ gX8_isPlace d 0 [(0, .ref x0), (1, .int x1)] [] h (some (.int r)) h'
  obtain ⟨d, rfl⟩ : ∃ e, d = e + 1 := ⟨d - 1, by omega⟩
  refine x_aload_n dX8_isPlace_0 rfl 0 rfl ?_
  refine x_iload_n dX8_isPlace_1 rfl 1 rfl ?_
  obtain ⟨c23, H⟩ := ko_o H
  obtain ⟨v19, h20, hc21, H⟩ := bd_o H
  refine x_callVi (As := [.int x1]) (q := (RX8, TX8, 7)) dX8_isPlace_2 mi_X8_isInside lk_X8_44 im_X8_isInside se_X8_isInside rfl c23 rfl rfl (Nat.le_of_ble_eq_true rfl) (t_X8_isInside (by omega) hc21) ?_
  refine x_if_ne (tgt := 10) dX8_isPlace_5 (by decide) (fun c22 => ?_) (fun c22 => ?_)
  · replace H := ite_m H c22
    refine x_iconst (v := 0) dX8_isPlace_10 (by decide) ?_
    refine x_istore_n (lv' := [(2, .int 0), (0, .ref x0), (1, .int x1)]) dX8_isPlace_11 rfl (by decide) rfl rfl ?_
    refine Ex.sub [1, 2, 0] rfl ?_
    exact t_X8_isPlace_12 hd FU H
  · replace H := ite_p H c22
    refine x_iconst (v := 0) dX8_isPlace_8 (by decide) ?_
    obtain ⟨rfl, rfl⟩ := so_1 H
    exact x_iret dX8_isPlace_9 rfl (by decide)
def f_X8_countPlaces_22 (k4 : Nat → Int32 → Int32 → aH → Option (Int32 × aH)) (x0 : Nat) (x1 : Int32) (x2 : Int32) (h : aH) : Option (Int32 × aH) :=
  nm (x2 + 1) fun (v1 : Int32) =>
  k4 x0 x1 v1 h
set_option maxRecDepth 100000 in
set_option maxHeartbeats 4000000 in
theorem t_X8_countPlaces_22 {Γ : gS} {d : Nat} (hd : 2 ≤ d) {k4 : Nat → Int32 → Int32 → aH → Option (Int32 × aH)} (hk4 : ∀ {x0 : Nat} {x1 : Int32} {x2 : Int32} {h : aH} {r : Int32} {h' : aH}, k4 x0 x1 x2 h = some (r, h') → Ex Γ gX8_countPlaces d 4 [(0, .ref x0), (1, .int x1), (2, .int x2)] [] h (some (.int r)) h') {x0 : Nat} {x1 : Int32} {x2 : Int32} {h : aH} {r : Int32} {h' : aH} (H : f_X8_countPlaces_22 k4 x0 x1 x2 h = some (r, h')) : Ex Γ gX8_countPlaces d 22 [(0, .ref x0), (1, .int x1), (2, .int x2)] [] h (some (.int r)) h' := by
  unfold f_X8_countPlaces_22 at H
  obtain ⟨d, rfl⟩ : ∃ e, d = e + 1 := ⟨d - 1, by omega⟩
  obtain ⟨v1, ev1, H⟩ := nm_o H
  refine x_iinc (v := v1) (lv' := [(2, .int v1), (0, .ref x0), (1, .int x1)]) dX8_countPlaces_22 2 rfl (by decide) ev1 rfl ?_
  refine x_goto (tgt := 4) dX8_countPlaces_25 (by decide) ?_
  refine Ex.sub [1, 2, 0] rfl ?_
  exact hk4 H
def b_X8_countPlaces_4 (k4 : Nat → Int32 → Int32 → aH → Option (Int32 × aH)) (x0 : Nat) (x1 : Int32) (x2 : Int32) (h : aH) : Option (Int32 × aH) :=
  if 4096 ≤ x2 then
    some (x1, h)
  else
    ko h x0 8 <|
    bd (f_X8_isPlace x0 x2 h) fun v3 h4 =>
    if v3 = 0 then
      f_X8_countPlaces_22 k4 x0 x1 x2 h4
    else
      nm (x1 + 1) fun (v7 : Int32) =>
      f_X8_countPlaces_22 k4 x0 v7 x2 h4
set_option maxRecDepth 100000 in
set_option maxHeartbeats 4000000 in
theorem tb_X8_countPlaces_4 {Γ : gS} {d : Nat} (hd : 2 ≤ d) {k4 : Nat → Int32 → Int32 → aH → Option (Int32 × aH)} (hk4 : ∀ {x0 : Nat} {x1 : Int32} {x2 : Int32} {h : aH} {r : Int32} {h' : aH}, k4 x0 x1 x2 h = some (r, h') → Ex Γ gX8_countPlaces d 4 [(0, .ref x0), (1, .int x1), (2, .int x2)] [] h (some (.int r)) h') {x0 : Nat} {x1 : Int32} {x2 : Int32} {h : aH} {r : Int32} {h' : aH} (H : b_X8_countPlaces_4 k4 x0 x1 x2 h = some (r, h')) : Ex Γ gX8_countPlaces d 4 [(0, .ref x0), (1, .int x1), (2, .int x2)] [] h (some (.int r)) h' := by
  unfold b_X8_countPlaces_4 at H
  obtain ⟨d, rfl⟩ : ∃ e, d = e + 1 := ⟨d - 1, by omega⟩
  refine x_iload_n dX8_countPlaces_4 rfl 2 rfl ?_
  refine x_sipush (v := 4096) dX8_countPlaces_5 (by decide) ?_
  refine x_icmp_ge (tgt := 28) dX8_countPlaces_8 (by decide) (fun c2 => ?_) (fun c2 => ?_)
  · replace H := ite_p H c2
    refine x_iload_n dX8_countPlaces_28 rfl 1 rfl ?_
    obtain ⟨rfl, rfl⟩ := so_1 H
    exact x_iret dX8_countPlaces_29 rfl rfl
  · replace H := ite_m H c2
    refine x_aload_n dX8_countPlaces_11 rfl 0 rfl ?_
    refine x_iload_n dX8_countPlaces_12 rfl 2 rfl ?_
    obtain ⟨c8, H⟩ := ko_o H
    obtain ⟨v3, h4, hc5, H⟩ := bd_o H
    refine x_callVi (As := [.int x2]) (q := (RX8, TX8, 7)) dX8_countPlaces_13 mi_X8_isPlace lk_X8_48 im_X8_isPlace se_X8_isPlace rfl c8 rfl rfl (Nat.le_of_ble_eq_true rfl) (t_X8_isPlace (by omega) hc5) ?_
    refine x_if_eq (tgt := 22) dX8_countPlaces_16 (by decide) (fun c6 => ?_) (fun c6 => ?_)
    · replace H := ite_p H c6
      exact t_X8_countPlaces_22 hd hk4 H
    · replace H := ite_m H c6
      obtain ⟨v7, ev7, H⟩ := nm_o H
      refine x_iinc (v := v7) (lv' := [(1, .int v7), (0, .ref x0), (2, .int x2)]) dX8_countPlaces_19 1 rfl (by decide) ev7 rfl ?_
      refine Ex.sub [1, 0, 2] rfl ?_
      exact t_X8_countPlaces_22 hd hk4 H
def f_X8_countPlaces_4 : Nat → Nat → Int32 → Int32 → aH → Option (Int32 × aH)
  | 0 => fun _ _ _ _ => none
  | n + 1 => b_X8_countPlaces_4 (f_X8_countPlaces_4 n)
set_option maxRecDepth 100000 in
set_option maxHeartbeats 4000000 in
theorem t_X8_countPlaces_4 {Γ : gS} {d : Nat} (hd : 2 ≤ d) (n : Nat) : ∀ {x0 : Nat} {x1 : Int32} {x2 : Int32} {h : aH} {r : Int32} {h' : aH}, f_X8_countPlaces_4 n x0 x1 x2 h = some (r, h') → Ex Γ gX8_countPlaces d 4 [(0, .ref x0), (1, .int x1), (2, .int x2)] [] h (some (.int r)) h' := by
  induction n with
  | zero => intro x0 x1 x2 h r h' H; cases H
  | succ n ih => intro x0 x1 x2 h r h' H; exact tb_X8_countPlaces_4 hd ih H
def f_X8_countPlaces (x0 : Nat) (h : aH) : Option (Int32 × aH) :=
  f_X8_countPlaces_4 FU x0 0 0 h
set_option maxRecDepth 100000 in
set_option maxHeartbeats 4000000 in
theorem t_X8_countPlaces {Γ : gS} {d : Nat} (hd : 2 ≤ d) {x0 : Nat} {h : aH} {r : Int32} {h' : aH} (H : f_X8_countPlaces x0 h = some (r, h')) : Mx Γ gX8_countPlaces d [.ref x0] h (some (.int r)) h' := by
  refine Mx.of (by decide +kernel) (Nat.le_of_ble_eq_true rfl) ?_
  unfold f_X8_countPlaces at H
  show Ex Γ gX8_countPlaces d 0 [(0, .ref x0)] [] h (some (.int r)) h'
  obtain ⟨d, rfl⟩ : ∃ e, d = e + 1 := ⟨d - 1, by omega⟩
  refine x_iconst (v := 0) dX8_countPlaces_0 (by decide) ?_
  refine x_istore_n (lv' := [(1, .int 0), (0, .ref x0)]) dX8_countPlaces_1 rfl (by decide) rfl rfl ?_
  refine x_iconst (v := 0) dX8_countPlaces_2 (by decide) ?_
  refine x_istore_n (lv' := [(2, .int 0), (1, .int 0), (0, .ref x0)]) dX8_countPlaces_3 rfl (by decide) rfl rfl ?_
  refine Ex.sub [2, 1, 0] rfl ?_
  exact t_X8_countPlaces_4 hd FU H
def f_X8_placeNumber_33 (k4 : Nat → Int32 → Int32 → Int32 → aH → Option (Int32 × aH)) (x0 : Nat) (x1 : Int32) (x2 : Int32) (x3 : Int32) (h : aH) : Option (Int32 × aH) :=
  nm (x3 + 1) fun (v1 : Int32) =>
  k4 x0 x1 x2 v1 h
set_option maxRecDepth 100000 in
set_option maxHeartbeats 4000000 in
theorem t_X8_placeNumber_33 {Γ : gS} {d : Nat} (hd : 2 ≤ d) {k4 : Nat → Int32 → Int32 → Int32 → aH → Option (Int32 × aH)} (hk4 : ∀ {x0 : Nat} {x1 : Int32} {x2 : Int32} {x3 : Int32} {h : aH} {r : Int32} {h' : aH}, k4 x0 x1 x2 x3 h = some (r, h') → Ex Γ gX8_placeNumber d 4 [(0, .ref x0), (1, .int x1), (2, .int x2), (3, .int x3)] [] h (some (.int r)) h') {x0 : Nat} {x1 : Int32} {x2 : Int32} {x3 : Int32} {h : aH} {r : Int32} {h' : aH} (H : f_X8_placeNumber_33 k4 x0 x1 x2 x3 h = some (r, h')) : Ex Γ gX8_placeNumber d 33 [(0, .ref x0), (1, .int x1), (2, .int x2), (3, .int x3)] [] h (some (.int r)) h' := by
  unfold f_X8_placeNumber_33 at H
  obtain ⟨d, rfl⟩ : ∃ e, d = e + 1 := ⟨d - 1, by omega⟩
  obtain ⟨v1, ev1, H⟩ := nm_o H
  refine x_iinc (v := v1) (lv' := [(3, .int v1), (0, .ref x0), (1, .int x1), (2, .int x2)]) dX8_placeNumber_33 3 rfl (by decide) ev1 rfl ?_
  refine x_goto (tgt := 4) dX8_placeNumber_36 (by decide) ?_
  refine Ex.sub [1, 2, 3, 0] rfl ?_
  exact hk4 H
def f_X8_placeNumber_39 (h : aH) : Option (Int32 × aH) :=
  some ((-1), h)
set_option maxRecDepth 100000 in
set_option maxHeartbeats 4000000 in
theorem t_X8_placeNumber_39 {Γ : gS} {d : Nat} (hd : 2 ≤ d) {h : aH} {r : Int32} {h' : aH} (H : f_X8_placeNumber_39 h = some (r, h')) : Ex Γ gX8_placeNumber d 39 [] [] h (some (.int r)) h' := by
  unfold f_X8_placeNumber_39 at H
  obtain ⟨d, rfl⟩ : ∃ e, d = e + 1 := ⟨d - 1, by omega⟩
  refine x_iconst (v := (-1)) dX8_placeNumber_39 (by decide) ?_
  obtain ⟨rfl, rfl⟩ := so_1 H
  exact x_iret dX8_placeNumber_40 rfl rfl
def b_X8_placeNumber_4 (k4 : Nat → Int32 → Int32 → Int32 → aH → Option (Int32 × aH)) (x0 : Nat) (x1 : Int32) (x2 : Int32) (x3 : Int32) (h : aH) : Option (Int32 × aH) :=
  if 4096 ≤ x3 then
    f_X8_placeNumber_39 h
  else
    if x1 < 0 then
      f_X8_placeNumber_39 h
    else
      ko h x0 8 <|
      bd (f_X8_isPlace x0 x3 h) fun v4 h5 =>
      if v4 = 0 then
        f_X8_placeNumber_33 k4 x0 x1 x2 x3 h5
      else
        if x2 = x1 then
          some (x3, h5)
        else
          nm (x2 + 1) fun (v9 : Int32) =>
          f_X8_placeNumber_33 k4 x0 x1 v9 x3 h5
set_option maxRecDepth 100000 in
set_option maxHeartbeats 4000000 in
theorem tb_X8_placeNumber_4 {Γ : gS} {d : Nat} (hd : 2 ≤ d) {k4 : Nat → Int32 → Int32 → Int32 → aH → Option (Int32 × aH)} (hk4 : ∀ {x0 : Nat} {x1 : Int32} {x2 : Int32} {x3 : Int32} {h : aH} {r : Int32} {h' : aH}, k4 x0 x1 x2 x3 h = some (r, h') → Ex Γ gX8_placeNumber d 4 [(0, .ref x0), (1, .int x1), (2, .int x2), (3, .int x3)] [] h (some (.int r)) h') {x0 : Nat} {x1 : Int32} {x2 : Int32} {x3 : Int32} {h : aH} {r : Int32} {h' : aH} (H : b_X8_placeNumber_4 k4 x0 x1 x2 x3 h = some (r, h')) : Ex Γ gX8_placeNumber d 4 [(0, .ref x0), (1, .int x1), (2, .int x2), (3, .int x3)] [] h (some (.int r)) h' := by
  unfold b_X8_placeNumber_4 at H
  obtain ⟨d, rfl⟩ : ∃ e, d = e + 1 := ⟨d - 1, by omega⟩
  refine x_iload_n dX8_placeNumber_4 rfl 3 rfl ?_
  refine x_sipush (v := 4096) dX8_placeNumber_5 (by decide) ?_
  refine x_icmp_ge (tgt := 39) dX8_placeNumber_8 (by decide) (fun c2 => ?_) (fun c2 => ?_)
  · replace H := ite_p H c2
    refine Ex.sub [] rfl ?_
    exact t_X8_placeNumber_39 hd H
  · replace H := ite_m H c2
    refine x_iload_n dX8_placeNumber_11 rfl 1 rfl ?_
    refine x_if_lt (tgt := 39) dX8_placeNumber_12 (by decide) (fun c3 => ?_) (fun c3 => ?_)
    · replace H := ite_p H c3
      refine Ex.sub [] rfl ?_
      exact t_X8_placeNumber_39 hd H
    · replace H := ite_m H c3
      refine x_aload_n dX8_placeNumber_15 rfl 0 rfl ?_
      refine x_iload_n dX8_placeNumber_16 rfl 3 rfl ?_
      obtain ⟨c10, H⟩ := ko_o H
      obtain ⟨v4, h5, hc6, H⟩ := bd_o H
      refine x_callVi (As := [.int x3]) (q := (RX8, TX8, 7)) dX8_placeNumber_17 mi_X8_isPlace lk_X8_48 im_X8_isPlace se_X8_isPlace rfl c10 rfl rfl (Nat.le_of_ble_eq_true rfl) (t_X8_isPlace (by omega) hc6) ?_
      refine x_if_eq (tgt := 33) dX8_placeNumber_20 (by decide) (fun c7 => ?_) (fun c7 => ?_)
      · replace H := ite_p H c7
        exact t_X8_placeNumber_33 hd hk4 H
      · replace H := ite_m H c7
        refine x_iload_n dX8_placeNumber_23 rfl 2 rfl ?_
        refine x_iload_n dX8_placeNumber_24 rfl 1 rfl ?_
        refine x_icmp_ne (tgt := 30) dX8_placeNumber_25 (by decide) (fun c8 => ?_) (fun c8 => ?_)
        · replace H := ite_m H c8
          obtain ⟨v9, ev9, H⟩ := nm_o H
          refine x_iinc (v := v9) (lv' := [(2, .int v9), (0, .ref x0), (1, .int x1), (3, .int x3)]) dX8_placeNumber_30 2 rfl (by decide) ev9 rfl ?_
          refine Ex.sub [1, 2, 0, 3] rfl ?_
          exact t_X8_placeNumber_33 hd hk4 H
        · replace H := ite_p H c8
          refine x_iload_n dX8_placeNumber_28 rfl 3 rfl ?_
          obtain ⟨rfl, rfl⟩ := so_1 H
          exact x_iret dX8_placeNumber_29 rfl rfl
def f_X8_placeNumber_4 : Nat → Nat → Int32 → Int32 → Int32 → aH → Option (Int32 × aH)
  | 0 => fun _ _ _ _ _ => none
  | n + 1 => b_X8_placeNumber_4 (f_X8_placeNumber_4 n)
set_option maxRecDepth 100000 in
set_option maxHeartbeats 4000000 in
theorem t_X8_placeNumber_4 {Γ : gS} {d : Nat} (hd : 2 ≤ d) (n : Nat) : ∀ {x0 : Nat} {x1 : Int32} {x2 : Int32} {x3 : Int32} {h : aH} {r : Int32} {h' : aH}, f_X8_placeNumber_4 n x0 x1 x2 x3 h = some (r, h') → Ex Γ gX8_placeNumber d 4 [(0, .ref x0), (1, .int x1), (2, .int x2), (3, .int x3)] [] h (some (.int r)) h' := by
  induction n with
  | zero => intro x0 x1 x2 x3 h r h' H; cases H
  | succ n ih => intro x0 x1 x2 x3 h r h' H; exact tb_X8_placeNumber_4 hd ih H
def f_X8_placeNumber (x0 : Nat) (x1 : Int32) (h : aH) : Option (Int32 × aH) :=
  f_X8_placeNumber_4 FU x0 x1 0 0 h
set_option maxRecDepth 100000 in
set_option maxHeartbeats 4000000 in
theorem t_X8_placeNumber {Γ : gS} {d : Nat} (hd : 2 ≤ d) {x0 : Nat} {x1 : Int32} {h : aH} {r : Int32} {h' : aH} (H : f_X8_placeNumber x0 x1 h = some (r, h')) : Mx Γ gX8_placeNumber d [.ref x0, .int x1] h (some (.int r)) h' := by
  refine Mx.of (by decide +kernel) (Nat.le_of_ble_eq_true rfl) ?_
  unfold f_X8_placeNumber at H
  show Ex Γ gX8_placeNumber d 0 [(0, .ref x0), (1, .int x1)] [] h (some (.int r)) h'
  obtain ⟨d, rfl⟩ : ∃ e, d = e + 1 := ⟨d - 1, by omega⟩
  refine x_iconst (v := 0) dX8_placeNumber_0 (by decide) ?_
  refine x_istore_n (lv' := [(2, .int 0), (0, .ref x0), (1, .int x1)]) dX8_placeNumber_1 rfl (by decide) rfl rfl ?_
  refine x_iconst (v := 0) dX8_placeNumber_2 (by decide) ?_
  refine x_istore_n (lv' := [(3, .int 0), (2, .int 0), (0, .ref x0), (1, .int x1)]) dX8_placeNumber_3 rfl (by decide) rfl rfl ?_
  refine Ex.sub [2, 3, 1, 0] rfl ?_
  exact t_X8_placeNumber_4 hd FU H
def f_X8_placesAt_22 (h : aH) : Option (Int32 × aH) :=
  some (0, h)
set_option maxRecDepth 100000 in
set_option maxHeartbeats 4000000 in
theorem t_X8_placesAt_22 {Γ : gS} {d : Nat} (hd : 2 ≤ d) {h : aH} {r : Int32} {h' : aH} (H : f_X8_placesAt_22 h = some (r, h')) : Ex Γ gX8_placesAt d 22 [] [] h (some (.int r)) h' := by
  unfold f_X8_placesAt_22 at H
  obtain ⟨d, rfl⟩ : ∃ e, d = e + 1 := ⟨d - 1, by omega⟩
  refine x_iconst (v := 0) dX8_placesAt_22 (by decide) ?_
  obtain ⟨rfl, rfl⟩ := so_1 H
  exact x_iret dX8_placesAt_23 rfl rfl
def f_X8_placesAt_46 (s0 : Int32) (h : aH) : Option (Int32 × aH) :=
  some (s0, h)
set_option maxRecDepth 100000 in
set_option maxHeartbeats 4000000 in
theorem t_X8_placesAt_46 {Γ : gS} {d : Nat} (hd : 2 ≤ d) {s0 : Int32} {h : aH} {r : Int32} {h' : aH} (H : f_X8_placesAt_46 s0 h = some (r, h')) : Ex Γ gX8_placesAt d 46 [] [.int s0] h (some (.int r)) h' := by
  unfold f_X8_placesAt_46 at H
  obtain ⟨d, rfl⟩ : ∃ e, d = e + 1 := ⟨d - 1, by omega⟩
  obtain ⟨rfl, rfl⟩ := so_1 H
  exact x_iret dX8_placesAt_46 rfl rfl
def f_X8_placesAt (x0 : Nat) (x1 : Int32) (h : aH) : Option (Int32 × aH) :=
  if x1 < 0 then
    f_X8_placesAt_22 h
  else
    ko h x0 8 <|
    if (hI h x0 6) ≤ x1 then
      f_X8_placesAt_22 h
    else
      if (hI h x0 6) = 4096 then
        f_X8_placesAt_22 h
      else
        bd (f_X8_isPlace x0 (((hI h x0 5) + x1) &&& 4095) h) fun v5 h6 =>
        if v5 = 0 then
          f_X8_placesAt_46 0 h6
        else
          f_X8_placesAt_46 1 h6
set_option maxRecDepth 100000 in
set_option maxHeartbeats 4000000 in
theorem t_X8_placesAt {Γ : gS} {d : Nat} (hd : 2 ≤ d) {x0 : Nat} {x1 : Int32} {h : aH} {r : Int32} {h' : aH} (H : f_X8_placesAt x0 x1 h = some (r, h')) : Mx Γ gX8_placesAt d [.ref x0, .int x1] h (some (.int r)) h' := by
  refine Mx.of (by decide +kernel) (Nat.le_of_ble_eq_true rfl) ?_
  unfold f_X8_placesAt at H
  show Ex Γ gX8_placesAt d 0 [(0, .ref x0), (1, .int x1)] [] h (some (.int r)) h'
  obtain ⟨d, rfl⟩ : ∃ e, d = e + 1 := ⟨d - 1, by omega⟩
  refine x_iload_n dX8_placesAt_0 rfl 1 rfl ?_
  refine x_if_lt (tgt := 22) dX8_placesAt_1 (by decide) (fun c1 => ?_) (fun c1 => ?_)
  · replace H := ite_p H c1
    refine Ex.sub [] rfl ?_
    exact t_X8_placesAt_22 hd H
  · replace H := ite_m H c1
    refine x_iload_n dX8_placesAt_4 rfl 1 rfl ?_
    refine x_aload_n dX8_placesAt_5 rfl 0 rfl ?_
    obtain ⟨c2, H⟩ := ko_o H
    refine x_getI fr_X8_32 dX8_placesAt_6 c2 rfl ?_
    refine x_icmp_ge (tgt := 22) dX8_placesAt_9 (by decide) (fun c3 => ?_) (fun c3 => ?_)
    · replace H := ite_p H c3
      refine Ex.sub [] rfl ?_
      exact t_X8_placesAt_22 hd H
    · replace H := ite_m H c3
      refine x_aload_n dX8_placesAt_12 rfl 0 rfl ?_
      refine x_getI fr_X8_32 dX8_placesAt_13 c2 rfl ?_
      refine x_sipush (v := 4096) dX8_placesAt_16 (by decide) ?_
      refine x_icmp_ne (tgt := 24) dX8_placesAt_19 (by decide) (fun c4 => ?_) (fun c4 => ?_)
      · replace H := ite_m H c4
        refine x_aload_n dX8_placesAt_24 rfl 0 rfl ?_
        refine x_aload_n dX8_placesAt_25 rfl 0 rfl ?_
        refine x_getI fr_X8_29 dX8_placesAt_26 c2 rfl ?_
        refine x_iload_n dX8_placesAt_29 rfl 1 rfl ?_
        refine x_iadd dX8_placesAt_30 ?_
        refine x_sipush (v := 4095) dX8_placesAt_31 (by decide) ?_
        refine x_iand dX8_placesAt_34 ?_
        obtain ⟨v5, h6, hc7, H⟩ := bd_o H
        refine x_callVi (As := [.int (((hI h x0 5) + x1) &&& 4095)]) (q := (RX8, TX8, 7)) dX8_placesAt_35 mi_X8_isPlace lk_X8_48 im_X8_isPlace se_X8_isPlace rfl c2 rfl rfl (Nat.le_of_ble_eq_true rfl) (t_X8_isPlace (by omega) hc7) ?_
        refine x_if_eq (tgt := 45) dX8_placesAt_38 (by decide) (fun c8 => ?_) (fun c8 => ?_)
        · replace H := ite_p H c8
          refine x_iconst (v := 0) dX8_placesAt_45 (by decide) ?_
          refine Ex.sub [] rfl ?_
          exact t_X8_placesAt_46 hd H
        · replace H := ite_m H c8
          refine x_iconst (v := 1) dX8_placesAt_41 (by decide) ?_
          refine x_goto (tgt := 46) dX8_placesAt_42 (by decide) ?_
          refine Ex.sub [] rfl ?_
          exact t_X8_placesAt_46 hd H
      · replace H := ite_p H c4
        refine Ex.sub [] rfl ?_
        exact t_X8_placesAt_22 hd H
def f_X8_findTelling_62 (k16 : Nat → Int32 → Int32 → Int32 → aH → Option (Int32 × aH)) (x0 : Nat) (x1 : Int32) (x2 : Int32) (x3 : Int32) (h : aH) : Option (Int32 × aH) :=
  nm (x3 + 1) fun (v1 : Int32) =>
  k16 x0 x1 x2 v1 h
set_option maxRecDepth 100000 in
set_option maxHeartbeats 4000000 in
theorem t_X8_findTelling_62 {Γ : gS} {d : Nat} (hd : 3 ≤ d) {k16 : Nat → Int32 → Int32 → Int32 → aH → Option (Int32 × aH)} (hk16 : ∀ {x0 : Nat} {x1 : Int32} {x2 : Int32} {x3 : Int32} {h : aH} {r : Int32} {h' : aH}, k16 x0 x1 x2 x3 h = some (r, h') → Ex Γ gX8_findTelling d 16 [(0, .ref x0), (1, .int x1), (2, .int x2), (3, .int x3)] [] h (some (.int r)) h') {x0 : Nat} {x1 : Int32} {x2 : Int32} {x3 : Int32} {h : aH} {r : Int32} {h' : aH} (H : f_X8_findTelling_62 k16 x0 x1 x2 x3 h = some (r, h')) : Ex Γ gX8_findTelling d 62 [(0, .ref x0), (1, .int x1), (2, .int x2), (3, .int x3)] [] h (some (.int r)) h' := by
  unfold f_X8_findTelling_62 at H
  obtain ⟨d, rfl⟩ : ∃ e, d = e + 1 := ⟨d - 1, by omega⟩
  obtain ⟨v1, ev1, H⟩ := nm_o H
  refine x_iinc (v := v1) (lv' := [(3, .int v1), (0, .ref x0), (1, .int x1), (2, .int x2)]) dX8_findTelling_62 3 rfl (by decide) ev1 rfl ?_
  refine x_goto (tgt := 16) dX8_findTelling_65 (by decide) ?_
  refine Ex.sub [1, 2, 3, 0] rfl ?_
  exact hk16 H
def f_X8_findTelling_120 (k72 : Nat → Int32 → Int32 → Int32 → aH → Option (Int32 × aH)) (x0 : Nat) (x1 : Int32) (x2 : Int32) (x3 : Int32) (h : aH) : Option (Int32 × aH) :=
  nm (x3 + 1) fun (v2 : Int32) =>
  k72 x0 x1 x2 v2 h
set_option maxRecDepth 100000 in
set_option maxHeartbeats 4000000 in
theorem t_X8_findTelling_120 {Γ : gS} {d : Nat} (hd : 3 ≤ d) {k72 : Nat → Int32 → Int32 → Int32 → aH → Option (Int32 × aH)} (hk72 : ∀ {x0 : Nat} {x1 : Int32} {x2 : Int32} {x3 : Int32} {h : aH} {r : Int32} {h' : aH}, k72 x0 x1 x2 x3 h = some (r, h') → Ex Γ gX8_findTelling d 72 [(0, .ref x0), (1, .int x1), (2, .int x2), (3, .int x3)] [] h (some (.int r)) h') {x0 : Nat} {x1 : Int32} {x2 : Int32} {x3 : Int32} {h : aH} {r : Int32} {h' : aH} (H : f_X8_findTelling_120 k72 x0 x1 x2 x3 h = some (r, h')) : Ex Γ gX8_findTelling d 120 [(0, .ref x0), (1, .int x1), (2, .int x2), (3, .int x3)] [] h (some (.int r)) h' := by
  unfold f_X8_findTelling_120 at H
  obtain ⟨d, rfl⟩ : ∃ e, d = e + 1 := ⟨d - 1, by omega⟩
  obtain ⟨v2, ev2, H⟩ := nm_o H
  refine x_iinc (v := v2) (lv' := [(3, .int v2), (0, .ref x0), (1, .int x1), (2, .int x2)]) dX8_findTelling_120 3 rfl (by decide) ev2 rfl ?_
  refine x_goto (tgt := 72) dX8_findTelling_123 (by decide) ?_
  refine Ex.sub [1, 2, 3, 0] rfl ?_
  exact hk72 H
def f_X8_findTelling_135 (s0 : Int32) (h : aH) : Option (Int32 × aH) :=
  chk (narrow .boolean (.int s0) = .int s0) <|
  some (s0, h)
set_option maxRecDepth 100000 in
set_option maxHeartbeats 4000000 in
theorem t_X8_findTelling_135 {Γ : gS} {d : Nat} (hd : 3 ≤ d) {s0 : Int32} {h : aH} {r : Int32} {h' : aH} (H : f_X8_findTelling_135 s0 h = some (r, h')) : Ex Γ gX8_findTelling d 135 [] [.int s0] h (some (.int r)) h' := by
  unfold f_X8_findTelling_135 at H
  obtain ⟨d, rfl⟩ : ∃ e, d = e + 1 := ⟨d - 1, by omega⟩
  obtain ⟨c3, H⟩ := chk_o H
  obtain ⟨rfl, rfl⟩ := so_1 H
  exact x_iret dX8_findTelling_135 rfl c3
def b_X8_findTelling_72 (k72 : Nat → Int32 → Int32 → Int32 → aH → Option (Int32 × aH)) (x0 : Nat) (x1 : Int32) (x2 : Int32) (x3 : Int32) (h : aH) : Option (Int32 × aH) :=
  if 64 ≤ x3 then
    if x1 ≤ 0 then
      f_X8_findTelling_135 0 h
    else
      f_X8_findTelling_135 1 h
  else
    ko h x0 8 <|
    bd (f_X8_placesAt x0 ((hI h x0 6) - x3) h) fun v7 h8 =>
    nm (x2 + v7) fun (v10 : Int32) =>
    bd (f_J9_max_7cf53 v10 (x1 - v10) h8) fun v11 h12 =>
    ko h12 x0 8 <|
    if (hI h12 x0 2) ≤ v11 then
      f_X8_findTelling_120 k72 x0 x1 v10 x3 h12
    else
      f_X8_findTelling_120 k72 x0 x1 v10 x3 (sI (sI h12 x0 2 v11) x0 1 x3)
set_option maxRecDepth 100000 in
set_option maxHeartbeats 4000000 in
theorem tb_X8_findTelling_72 {Γ : gS} {d : Nat} (hd : 3 ≤ d) {k72 : Nat → Int32 → Int32 → Int32 → aH → Option (Int32 × aH)} (hk72 : ∀ {x0 : Nat} {x1 : Int32} {x2 : Int32} {x3 : Int32} {h : aH} {r : Int32} {h' : aH}, k72 x0 x1 x2 x3 h = some (r, h') → Ex Γ gX8_findTelling d 72 [(0, .ref x0), (1, .int x1), (2, .int x2), (3, .int x3)] [] h (some (.int r)) h') {x0 : Nat} {x1 : Int32} {x2 : Int32} {x3 : Int32} {h : aH} {r : Int32} {h' : aH} (H : b_X8_findTelling_72 k72 x0 x1 x2 x3 h = some (r, h')) : Ex Γ gX8_findTelling d 72 [(0, .ref x0), (1, .int x1), (2, .int x2), (3, .int x3)] [] h (some (.int r)) h' := by
  unfold b_X8_findTelling_72 at H
  obtain ⟨d, rfl⟩ : ∃ e, d = e + 1 := ⟨d - 1, by omega⟩
  refine x_iload_n dX8_findTelling_72 rfl 3 rfl ?_
  refine x_bipush (v := 64) dX8_findTelling_73 (by decide) ?_
  refine x_icmp_ge (tgt := 126) dX8_findTelling_75 (by decide) (fun c4 => ?_) (fun c4 => ?_)
  · replace H := ite_p H c4
    refine x_iload_n dX8_findTelling_126 rfl 1 rfl ?_
    refine x_if_le (tgt := 134) dX8_findTelling_127 (by decide) (fun c5 => ?_) (fun c5 => ?_)
    · replace H := ite_p H c5
      refine x_iconst (v := 0) dX8_findTelling_134 (by decide) ?_
      refine Ex.sub [] rfl ?_
      exact t_X8_findTelling_135 hd H
    · replace H := ite_m H c5
      refine x_iconst (v := 1) dX8_findTelling_130 (by decide) ?_
      refine x_goto (tgt := 135) dX8_findTelling_131 (by decide) ?_
      refine Ex.sub [] rfl ?_
      exact t_X8_findTelling_135 hd H
  · replace H := ite_m H c4
    refine x_iload_n dX8_findTelling_78 rfl 2 rfl ?_
    refine x_aload_n dX8_findTelling_79 rfl 0 rfl ?_
    refine x_aload_n dX8_findTelling_80 rfl 0 rfl ?_
    obtain ⟨c6, H⟩ := ko_o H
    refine x_getI fr_X8_32 dX8_findTelling_81 c6 rfl ?_
    refine x_iload_n dX8_findTelling_84 rfl 3 rfl ?_
    refine x_isub dX8_findTelling_85 ?_
    obtain ⟨v7, h8, hc9, H⟩ := bd_o H
    refine x_callVi (As := [.int ((hI h x0 6) - x3)]) (q := (RX8, TX8, 7)) dX8_findTelling_86 mi_X8_placesAt lk_X8_55 im_X8_placesAt se_X8_placesAt rfl c6 rfl rfl (Nat.le_of_ble_eq_true rfl) (t_X8_placesAt (by omega) hc9) ?_
    refine x_iadd dX8_findTelling_89 ?_
    obtain ⟨v10, ev10, H⟩ := nm_o H
    refine x_istore_n (lv' := [(2, .int v10), (0, .ref x0), (1, .int x1), (3, .int x3)]) dX8_findTelling_90 rfl (by decide) ev10 rfl ?_
    refine x_iload_n dX8_findTelling_91 rfl 0 rfl ?_
    refine x_iload_n dX8_findTelling_92 rfl 2 rfl ?_
    refine x_iload_n dX8_findTelling_93 rfl 0 rfl ?_
    refine x_isub dX8_findTelling_94 ?_
    obtain ⟨v11, h12, hc13, H⟩ := bd_o H
    refine x_callSi (As := [.int v10, .int (x1 - v10)]) dX8_findTelling_95 mi_J9_max_7cf53 lk_X8_58 sm_J9_max_7cf53 rfl rfl (Nat.le_of_ble_eq_true rfl) (t_J9_max_7cf53 (by omega) hc13) ?_
    refine x_istore (lv' := [(4, .int v11), (2, .int v10), (0, .ref x0), (1, .int x1), (3, .int x3)]) dX8_findTelling_98 (by decide) rfl rfl ?_
    refine x_iload dX8_findTelling_100 0 rfl ?_
    refine x_aload_n dX8_findTelling_102 rfl 2 rfl ?_
    obtain ⟨c14, H⟩ := ko_o H
    refine x_getI fr_X8_18 dX8_findTelling_103 c14 rfl ?_
    refine x_icmp_ge (tgt := 120) dX8_findTelling_106 (by decide) (fun c15 => ?_) (fun c15 => ?_)
    · replace H := ite_p H c15
      refine Ex.sub [2, 3, 1, 4] rfl ?_
      exact t_X8_findTelling_120 hd hk72 H
    · replace H := ite_m H c15
      refine x_aload_n dX8_findTelling_109 rfl 2 rfl ?_
      refine x_iload dX8_findTelling_110 0 rfl ?_
      refine x_putI fl_X8_18 dX8_findTelling_112 c14 (fun e => by cases e) rfl ?_
      refine x_aload_n dX8_findTelling_115 rfl 2 rfl ?_
      refine x_iload_n dX8_findTelling_116 rfl 4 rfl ?_
      refine x_putI fl_X8_15 dX8_findTelling_117 c14 (fun e => by cases e) rfl ?_
      refine Ex.sub [2, 3, 1, 4] rfl ?_
      exact t_X8_findTelling_120 hd hk72 H
def f_X8_findTelling_72 : Nat → Nat → Int32 → Int32 → Int32 → aH → Option (Int32 × aH)
  | 0 => fun _ _ _ _ _ => none
  | n + 1 => b_X8_findTelling_72 (f_X8_findTelling_72 n)
set_option maxRecDepth 100000 in
set_option maxHeartbeats 4000000 in
theorem t_X8_findTelling_72 {Γ : gS} {d : Nat} (hd : 3 ≤ d) (n : Nat) : ∀ {x0 : Nat} {x1 : Int32} {x2 : Int32} {x3 : Int32} {h : aH} {r : Int32} {h' : aH}, f_X8_findTelling_72 n x0 x1 x2 x3 h = some (r, h') → Ex Γ gX8_findTelling d 72 [(0, .ref x0), (1, .int x1), (2, .int x2), (3, .int x3)] [] h (some (.int r)) h' := by
  induction n with
  | zero => intro x0 x1 x2 x3 h r h' H; cases H
  | succ n ih => intro x0 x1 x2 x3 h r h' H; exact tb_X8_findTelling_72 hd ih H
def b_X8_findTelling_16 (k16 : Nat → Int32 → Int32 → Int32 → aH → Option (Int32 × aH)) (x0 : Nat) (x1 : Int32) (x2 : Int32) (x3 : Int32) (h : aH) : Option (Int32 × aH) :=
  if 64 < x3 then
    f_X8_findTelling_72 FU x0 x1 0 0 h
  else
    ko h x0 8 <|
    bd (f_X8_placesAt x0 (x3 - 1) h) fun v17 h18 =>
    nm (x2 + v17) fun (v20 : Int32) =>
    bd (f_J9_max_7cf53 v20 (x1 - v20) h18) fun v21 h22 =>
    ko h22 x0 8 <|
    if (hI h22 x0 2) < v21 then
      f_X8_findTelling_62 k16 x0 x1 v20 x3 h22
    else
      f_X8_findTelling_62 k16 x0 x1 v20 x3 (sI (sI h22 x0 2 v21) x0 1 (-x3))
set_option maxRecDepth 100000 in
set_option maxHeartbeats 4000000 in
theorem tb_X8_findTelling_16 {Γ : gS} {d : Nat} (hd : 3 ≤ d) {k16 : Nat → Int32 → Int32 → Int32 → aH → Option (Int32 × aH)} (hk16 : ∀ {x0 : Nat} {x1 : Int32} {x2 : Int32} {x3 : Int32} {h : aH} {r : Int32} {h' : aH}, k16 x0 x1 x2 x3 h = some (r, h') → Ex Γ gX8_findTelling d 16 [(0, .ref x0), (1, .int x1), (2, .int x2), (3, .int x3)] [] h (some (.int r)) h') {x0 : Nat} {x1 : Int32} {x2 : Int32} {x3 : Int32} {h : aH} {r : Int32} {h' : aH} (H : b_X8_findTelling_16 k16 x0 x1 x2 x3 h = some (r, h')) : Ex Γ gX8_findTelling d 16 [(0, .ref x0), (1, .int x1), (2, .int x2), (3, .int x3)] [] h (some (.int r)) h' := by
  unfold b_X8_findTelling_16 at H
  obtain ⟨d, rfl⟩ : ∃ e, d = e + 1 := ⟨d - 1, by omega⟩
  refine x_iload_n dX8_findTelling_16 rfl 3 rfl ?_
  refine x_bipush (v := 64) dX8_findTelling_17 (by decide) ?_
  refine x_icmp_gt (tgt := 68) dX8_findTelling_19 (by decide) (fun c16 => ?_) (fun c16 => ?_)
  · replace H := ite_p H c16
    refine x_iconst (v := 0) dX8_findTelling_68 (by decide) ?_
    refine x_istore_n (lv' := [(2, .int 0), (0, .ref x0), (1, .int x1), (3, .int x3)]) dX8_findTelling_69 rfl (by decide) rfl rfl ?_
    refine x_iconst (v := 0) dX8_findTelling_70 (by decide) ?_
    refine x_istore_n (lv' := [(3, .int 0), (2, .int 0), (0, .ref x0), (1, .int x1)]) dX8_findTelling_71 rfl (by decide) rfl rfl ?_
    refine Ex.sub [2, 3, 1, 0] rfl ?_
    exact t_X8_findTelling_72 hd FU H
  · replace H := ite_m H c16
    refine x_iload_n dX8_findTelling_22 rfl 2 rfl ?_
    refine x_aload_n dX8_findTelling_23 rfl 0 rfl ?_
    refine x_iload_n dX8_findTelling_24 rfl 3 rfl ?_
    refine x_iconst (v := 1) dX8_findTelling_25 (by decide) ?_
    refine x_isub dX8_findTelling_26 ?_
    obtain ⟨c26, H⟩ := ko_o H
    obtain ⟨v17, h18, hc19, H⟩ := bd_o H
    refine x_callVi (As := [.int (x3 - 1)]) (q := (RX8, TX8, 7)) dX8_findTelling_27 mi_X8_placesAt lk_X8_55 im_X8_placesAt se_X8_placesAt rfl c26 rfl rfl (Nat.le_of_ble_eq_true rfl) (t_X8_placesAt (by omega) hc19) ?_
    refine x_iadd dX8_findTelling_30 ?_
    obtain ⟨v20, ev20, H⟩ := nm_o H
    refine x_istore_n (lv' := [(2, .int v20), (0, .ref x0), (1, .int x1), (3, .int x3)]) dX8_findTelling_31 rfl (by decide) ev20 rfl ?_
    refine x_iload_n dX8_findTelling_32 rfl 0 rfl ?_
    refine x_iload_n dX8_findTelling_33 rfl 2 rfl ?_
    refine x_iload_n dX8_findTelling_34 rfl 0 rfl ?_
    refine x_isub dX8_findTelling_35 ?_
    obtain ⟨v21, h22, hc23, H⟩ := bd_o H
    refine x_callSi (As := [.int v20, .int (x1 - v20)]) dX8_findTelling_36 mi_J9_max_7cf53 lk_X8_58 sm_J9_max_7cf53 rfl rfl (Nat.le_of_ble_eq_true rfl) (t_J9_max_7cf53 (by omega) hc23) ?_
    refine x_istore (lv' := [(4, .int v21), (2, .int v20), (0, .ref x0), (1, .int x1), (3, .int x3)]) dX8_findTelling_39 (by decide) rfl rfl ?_
    refine x_iload dX8_findTelling_41 0 rfl ?_
    refine x_aload_n dX8_findTelling_43 rfl 2 rfl ?_
    obtain ⟨c24, H⟩ := ko_o H
    refine x_getI fr_X8_18 dX8_findTelling_44 c24 rfl ?_
    refine x_icmp_gt (tgt := 62) dX8_findTelling_47 (by decide) (fun c25 => ?_) (fun c25 => ?_)
    · replace H := ite_p H c25
      refine Ex.sub [2, 3, 1, 4] rfl ?_
      exact t_X8_findTelling_62 hd hk16 H
    · replace H := ite_m H c25
      refine x_aload_n dX8_findTelling_50 rfl 2 rfl ?_
      refine x_iload dX8_findTelling_51 0 rfl ?_
      refine x_putI fl_X8_18 dX8_findTelling_53 c24 (fun e => by cases e) rfl ?_
      refine x_aload_n dX8_findTelling_56 rfl 2 rfl ?_
      refine x_iload_n dX8_findTelling_57 rfl 4 rfl ?_
      refine x_ineg dX8_findTelling_58 ?_
      refine x_putI fl_X8_15 dX8_findTelling_59 c24 (fun e => by cases e) rfl ?_
      refine Ex.sub [2, 3, 1, 4] rfl ?_
      exact t_X8_findTelling_62 hd hk16 H
def f_X8_findTelling_16 : Nat → Nat → Int32 → Int32 → Int32 → aH → Option (Int32 × aH)
  | 0 => fun _ _ _ _ _ => none
  | n + 1 => b_X8_findTelling_16 (f_X8_findTelling_16 n)
set_option maxRecDepth 100000 in
set_option maxHeartbeats 4000000 in
theorem t_X8_findTelling_16 {Γ : gS} {d : Nat} (hd : 3 ≤ d) (n : Nat) : ∀ {x0 : Nat} {x1 : Int32} {x2 : Int32} {x3 : Int32} {h : aH} {r : Int32} {h' : aH}, f_X8_findTelling_16 n x0 x1 x2 x3 h = some (r, h') → Ex Γ gX8_findTelling d 16 [(0, .ref x0), (1, .int x1), (2, .int x2), (3, .int x3)] [] h (some (.int r)) h' := by
  induction n with
  | zero => intro x0 x1 x2 x3 h r h' H; cases H
  | succ n ih => intro x0 x1 x2 x3 h r h' H; exact tb_X8_findTelling_16 hd ih H
def f_X8_findTelling (x0 : Nat) (h : aH) : Option (Int32 × aH) :=
  ko h x0 8 <|
  bd (f_X8_countPlaces x0 h) fun v27 h28 =>
  ko h28 x0 8 <|
  f_X8_findTelling_16 FU x0 v27 0 1 (sI h28 x0 2 (v27 + 1))
set_option maxRecDepth 100000 in
set_option maxHeartbeats 4000000 in
theorem t_X8_findTelling {Γ : gS} {d : Nat} (hd : 3 ≤ d) {x0 : Nat} {h : aH} {r : Int32} {h' : aH} (H : f_X8_findTelling x0 h = some (r, h')) : Mx Γ gX8_findTelling d [.ref x0] h (some (.int r)) h' := by
  refine Mx.of (by decide +kernel) (Nat.le_of_ble_eq_true rfl) ?_
  unfold f_X8_findTelling at H
  show Ex Γ gX8_findTelling d 0 [(0, .ref x0)] [] h (some (.int r)) h'
  obtain ⟨d, rfl⟩ : ∃ e, d = e + 1 := ⟨d - 1, by omega⟩
  refine x_aload_n dX8_findTelling_0 rfl 0 rfl ?_
  obtain ⟨c31, H⟩ := ko_o H
  obtain ⟨v27, h28, hc29, H⟩ := bd_o H
  refine x_callVi (As := []) (q := (RX8, TX8, 7)) dX8_findTelling_1 mi_X8_countPlaces lk_X8_51 im_X8_countPlaces se_X8_countPlaces rfl c31 rfl rfl (Nat.le_of_ble_eq_true rfl) (t_X8_countPlaces (by omega) hc29) ?_
  refine x_istore_n (lv' := [(1, .int v27), (0, .ref x0)]) dX8_findTelling_4 rfl (by decide) rfl rfl ?_
  refine x_aload_n dX8_findTelling_5 rfl 1 rfl ?_
  refine x_iload_n dX8_findTelling_6 rfl 0 rfl ?_
  refine x_iconst (v := 1) dX8_findTelling_7 (by decide) ?_
  refine x_iadd dX8_findTelling_8 ?_
  obtain ⟨c30, H⟩ := ko_o H
  refine x_putI fl_X8_18 dX8_findTelling_9 c30 (fun e => by cases e) rfl ?_
  refine x_iconst (v := 0) dX8_findTelling_12 (by decide) ?_
  refine x_istore_n (lv' := [(2, .int 0), (1, .int v27), (0, .ref x0)]) dX8_findTelling_13 rfl (by decide) rfl rfl ?_
  refine x_iconst (v := 1) dX8_findTelling_14 (by decide) ?_
  refine x_istore_n (lv' := [(3, .int 1), (2, .int 0), (1, .int v27), (0, .ref x0)]) dX8_findTelling_15 rfl (by decide) rfl rfl ?_
  refine Ex.sub [3, 2, 1, 0] rfl ?_
  exact t_X8_findTelling_16 hd FU H
