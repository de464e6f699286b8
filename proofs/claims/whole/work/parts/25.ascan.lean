def f_X7_init (x0 : Nat) (h : aH) : Option (Unit × aH) :=
  nm (hN h) fun (a2 : Nat) =>
  nm (nw h (.inr (.byte, 0)) 0) fun (h1 : aH) =>
  ko h1 x0 7 <|
  some ((), sI (sI (sI (sI (sI (sR h1 x0 0 (some a2)) x0 1 0) x0 2 0) x0 3 0) x0 4 0) x0 5 (-1))
set_option maxRecDepth 100000 in
set_option maxHeartbeats 4000000 in
theorem t_X7_init {Γ : gS} {d : Nat} (hd : 1 ≤ d) {x0 : Nat} {h : aH} {r : Unit} {h' : aH} (H : f_X7_init x0 h = some (r, h')) : Mx Γ gX7_init d [.ref x0] h none h' := by
  refine Mx.of (by decide +kernel) (Nat.le_of_ble_eq_true rfl) ?_
  unfold f_X7_init at H
  show Ex Γ gX7_init d 0 [(0, .ref x0)] [] h none h'
  obtain ⟨d, rfl⟩ : ∃ e, d = e + 1 := ⟨d - 1, by omega⟩
  refine x_aload_n dX7_init_0 rfl 0 rfl ?_
  refine x_oinit dX7_init_1 lk_X7_3 im_obj co_obj (Nat.le_of_ble_eq_true rfl) ?_
  refine x_aload_n dX7_init_4 rfl 0 rfl ?_
  refine x_iconst (v := 0) dX7_init_5 (by decide) ?_
  obtain ⟨a2, ea2, H⟩ := nm_o H
  obtain ⟨h1, eh1, H⟩ := nm_o H
  refine x_newa (t := .byte) (N := 0) dX7_init_6 rfl (by decide) rfl ac_byte (by decide) (by decide) (by decide) ?_
  rw [ea2]
  refine Ex.ren eh1 ?_
  obtain ⟨c3, H⟩ := ko_o H
  refine x_putR fl_X7_9 dX7_init_8 c3 (fun e => by cases e) rfl ?_
  refine x_aload_n dX7_init_11 rfl 0 rfl ?_
  refine x_iconst (v := 0) dX7_init_12 (by decide) ?_
  refine x_putI fl_X7_15 dX7_init_13 c3 (fun e => by cases e) rfl ?_
  refine x_aload_n dX7_init_16 rfl 0 rfl ?_
  refine x_iconst (v := 0) dX7_init_17 (by decide) ?_
  refine x_putI fl_X7_19 dX7_init_18 c3 (fun e => by cases e) rfl ?_
  refine x_aload_n dX7_init_21 rfl 0 rfl ?_
  refine x_iconst (v := 0) dX7_init_22 (by decide) ?_
  refine x_putI fl_X7_22 dX7_init_23 c3 (fun e => by cases e) rfl ?_
  refine x_aload_n dX7_init_26 rfl 0 rfl ?_
  refine x_iconst (v := 0) dX7_init_27 (by decide) ?_
  refine x_putI fl_X7_25 dX7_init_28 c3 (fun e => by cases e) rfl ?_
  refine x_aload_n dX7_init_31 rfl 0 rfl ?_
  refine x_iconst (v := (-1)) dX7_init_32 (by decide) ?_
  refine x_putI fl_X7_28 dX7_init_33 c3 (fun e => by cases e) rfl ?_
  obtain ⟨-, rfl⟩ := so_1 H
  exact x_vret dX7_init_36 rfl
def f_X7_kindAt_12 (h : aH) : Option (Int32 × aH) :=
  some (0, h)
set_option maxRecDepth 100000 in
set_option maxHeartbeats 4000000 in
theorem t_X7_kindAt_12 {Γ : gS} {d : Nat} (hd : 0 ≤ d) {h : aH} {r : Int32} {h' : aH} (H : f_X7_kindAt_12 h = some (r, h')) : Ex Γ gX7_kindAt d 12 [] [] h (some (.int r)) h' := by
  unfold f_X7_kindAt_12 at H
  refine x_iconst (v := 0) dX7_kindAt_12 (by decide) ?_
  obtain ⟨rfl, rfl⟩ := so_1 H
  exact x_iret dX7_kindAt_13 rfl rfl
def f_X7_kindAt_33 (h : aH) : Option (Int32 × aH) :=
  some (5, h)
set_option maxRecDepth 100000 in
set_option maxHeartbeats 4000000 in
theorem t_X7_kindAt_33 {Γ : gS} {d : Nat} (hd : 0 ≤ d) {h : aH} {r : Int32} {h' : aH} (H : f_X7_kindAt_33 h = some (r, h')) : Ex Γ gX7_kindAt d 33 [] [] h (some (.int r)) h' := by
  unfold f_X7_kindAt_33 at H
  refine x_iconst (v := 5) dX7_kindAt_33 (by decide) ?_
  obtain ⟨rfl, rfl⟩ := so_1 H
  exact x_iret dX7_kindAt_34 rfl rfl
def f_X7_kindAt_66 (s0 : Int32) (h : aH) : Option (Int32 × aH) :=
  some (s0, h)
set_option maxRecDepth 100000 in
set_option maxHeartbeats 4000000 in
theorem t_X7_kindAt_66 {Γ : gS} {d : Nat} (hd : 0 ≤ d) {s0 : Int32} {h : aH} {r : Int32} {h' : aH} (H : f_X7_kindAt_66 s0 h = some (r, h')) : Ex Γ gX7_kindAt d 66 [] [.int s0] h (some (.int r)) h' := by
  unfold f_X7_kindAt_66 at H
  obtain ⟨rfl, rfl⟩ := so_1 H
  exact x_iret dX7_kindAt_66 rfl rfl
def f_X7_kindAt_65 (h : aH) : Option (Int32 × aH) :=
  f_X7_kindAt_66 3 h
set_option maxRecDepth 100000 in
set_option maxHeartbeats 4000000 in
theorem t_X7_kindAt_65 {Γ : gS} {d : Nat} (hd : 0 ≤ d) {h : aH} {r : Int32} {h' : aH} (H : f_X7_kindAt_65 h = some (r, h')) : Ex Γ gX7_kindAt d 65 [] [] h (some (.int r)) h' := by
  unfold f_X7_kindAt_65 at H
  refine x_iconst (v := 3) dX7_kindAt_65 (by decide) ?_
  exact t_X7_kindAt_66 hd H
def f_X7_kindAt_49 (x2 : Int32) (h : aH) : Option (Int32 × aH) :=
  if x2 < 48 then
    f_X7_kindAt_65 h
  else
    if 57 < x2 then
      f_X7_kindAt_65 h
    else
      f_X7_kindAt_66 2 h
set_option maxRecDepth 100000 in
set_option maxHeartbeats 4000000 in
theorem t_X7_kindAt_49 {Γ : gS} {d : Nat} (hd : 0 ≤ d) {x2 : Int32} {h : aH} {r : Int32} {h' : aH} (H : f_X7_kindAt_49 x2 h = some (r, h')) : Ex Γ gX7_kindAt d 49 [(2, .int x2)] [] h (some (.int r)) h' := by
  unfold f_X7_kindAt_49 at H
  refine x_iload_n dX7_kindAt_49 rfl 0 rfl ?_
  refine x_bipush (v := 48) dX7_kindAt_50 (by decide) ?_
  refine x_icmp_lt (tgt := 65) dX7_kindAt_52 (by decide) (fun c1 => ?_) (fun c1 => ?_)
  · replace H := ite_p H c1
    refine Ex.sub [] rfl ?_
    exact t_X7_kindAt_65 hd H
  · replace H := ite_m H c1
    refine x_iload_n dX7_kindAt_55 rfl 0 rfl ?_
    refine x_bipush (v := 57) dX7_kindAt_56 (by decide) ?_
    refine x_icmp_gt (tgt := 65) dX7_kindAt_58 (by decide) (fun c2 => ?_) (fun c2 => ?_)
    · replace H := ite_p H c2
      refine Ex.sub [] rfl ?_
      exact t_X7_kindAt_65 hd H
    · replace H := ite_m H c2
      refine x_iconst (v := 2) dX7_kindAt_61 (by decide) ?_
      refine x_goto (tgt := 66) dX7_kindAt_62 (by decide) ?_
      refine Ex.sub [] rfl ?_
      exact t_X7_kindAt_66 hd H
def f_X7_kindAt (x0 : Nat) (x1 : Int32) (h : aH) : Option (Int32 × aH) :=
  if x1 < 0 then
    f_X7_kindAt_12 h
  else
    ko h x0 7 <|
    if x1 < (hI h x0 1) then
      kr (hR h x0 0) fun a6 =>
      ka h a6 .byte fun n9 =>
      chk (inb x1 n9 = true) <|
      nm (hI h a6 x1.toNatClampNeg) fun (v11 : Int32) =>
      if v11 = 10 then
        f_X7_kindAt_33 h
      else
        if v11 = 32 then
          f_X7_kindAt_33 h
        else
          if v11 < 97 then
            f_X7_kindAt_49 v11 h
          else
            if 122 < v11 then
              f_X7_kindAt_49 v11 h
            else
              some (1, h)
    else
      f_X7_kindAt_12 h
set_option maxRecDepth 100000 in
set_option maxHeartbeats 4000000 in
theorem t_X7_kindAt {Γ : gS} {d : Nat} (hd : 0 ≤ d) {x0 : Nat} {x1 : Int32} {h : aH} {r : Int32} {h' : aH} (H : f_X7_kindAt x0 x1 h = some (r, h')) : Mx Γ gX7_kindAt d [.ref x0, .int x1] h (some (.int r)) h' := by
  refine Mx.of (by decide +kernel) (Nat.le_of_ble_eq_true rfl) ?_
  unfold f_X7_kindAt at H
  show Ex Γ gX7_kindAt d 0 [(0, .ref x0), (1, .int x1)] [] h (some (.int r)) h'
  refine x_iload_n dX7_kindAt_0 rfl 1 rfl ?_
  refine x_if_lt (tgt := 12) dX7_kindAt_1 (by decide) (fun c3 => ?_) (fun c3 => ?_)
  · replace H := ite_p H c3
    refine Ex.sub [] rfl ?_
    exact t_X7_kindAt_12 hd H
  · replace H := ite_m H c3
    refine x_iload_n dX7_kindAt_4 rfl 1 rfl ?_
    refine x_aload_n dX7_kindAt_5 rfl 0 rfl ?_
    obtain ⟨c4, H⟩ := ko_o H
    refine x_getI fr_X7_15 dX7_kindAt_6 c4 rfl ?_
    refine x_icmp_lt (tgt := 14) dX7_kindAt_9 (by decide) (fun c5 => ?_) (fun c5 => ?_)
    · replace H := ite_p H c5
      refine x_aload_n dX7_kindAt_14 rfl 0 rfl ?_
      obtain ⟨a6, c7, H⟩ := kr_o H
      refine x_getR fr_X7_9 dX7_kindAt_15 c4 rfl c7 ?_
      refine x_iload_n dX7_kindAt_18 rfl 1 rfl ?_
      obtain ⟨n9, c8, H⟩ := ka_o H
      obtain ⟨c10, H⟩ := chk_o H
      refine x_bald dX7_kindAt_19 c8 (inb_in.mp c10) ?_
      obtain ⟨v11, ev11, H⟩ := nm_o H
      refine x_istore_n (lv' := [(2, .int v11), (0, .ref x0), (1, .int x1)]) dX7_kindAt_20 rfl (by decide) ev11 rfl ?_
      refine x_iload_n dX7_kindAt_21 rfl 0 rfl ?_
      refine x_bipush (v := 10) dX7_kindAt_22 (by decide) ?_
      refine x_icmp_eq (tgt := 33) dX7_kindAt_24 (by decide) (fun c12 => ?_) (fun c12 => ?_)
      · replace H := ite_p H c12
        refine Ex.sub [] rfl ?_
        exact t_X7_kindAt_33 hd H
      · replace H := ite_m H c12
        refine x_iload_n dX7_kindAt_27 rfl 0 rfl ?_
        refine x_bipush (v := 32) dX7_kindAt_28 (by decide) ?_
        refine x_icmp_ne (tgt := 35) dX7_kindAt_30 (by decide) (fun c13 => ?_) (fun c13 => ?_)
        · replace H := ite_m H c13
          refine x_iload_n dX7_kindAt_35 rfl 0 rfl ?_
          refine x_bipush (v := 97) dX7_kindAt_36 (by decide) ?_
          refine x_icmp_lt (tgt := 49) dX7_kindAt_38 (by decide) (fun c14 => ?_) (fun c14 => ?_)
          · replace H := ite_p H c14
            refine Ex.sub [0] rfl ?_
            exact t_X7_kindAt_49 hd H
          · replace H := ite_m H c14
            refine x_iload_n dX7_kindAt_41 rfl 0 rfl ?_
            refine x_bipush (v := 122) dX7_kindAt_42 (by decide) ?_
            refine x_icmp_gt (tgt := 49) dX7_kindAt_44 (by decide) (fun c15 => ?_) (fun c15 => ?_)
            · replace H := ite_p H c15
              refine Ex.sub [0] rfl ?_
              exact t_X7_kindAt_49 hd H
            · replace H := ite_m H c15
              refine x_iconst (v := 1) dX7_kindAt_47 (by decide) ?_
              obtain ⟨rfl, rfl⟩ := so_1 H
              exact x_iret dX7_kindAt_48 rfl rfl
        · replace H := ite_p H c13
          refine Ex.sub [] rfl ?_
          exact t_X7_kindAt_33 hd H
    · replace H := ite_m H c5
      refine Ex.sub [] rfl ?_
      exact t_X7_kindAt_12 hd H
def f_X7_plainValue_36 (s0 : Int32) (h : aH) : Option (Int32 × aH) :=
  some (s0, h)
set_option maxRecDepth 100000 in
set_option maxHeartbeats 4000000 in
theorem t_X7_plainValue_36 {Γ : gS} {d : Nat} (hd : 0 ≤ d) {s0 : Int32} {h : aH} {r : Int32} {h' : aH} (H : f_X7_plainValue_36 s0 h = some (r, h')) : Ex Γ gX7_plainValue d 36 [] [.int s0] h (some (.int r)) h' := by
  unfold f_X7_plainValue_36 at H
  obtain ⟨rfl, rfl⟩ := so_1 H
  exact x_iret dX7_plainValue_36 rfl rfl
def f_X7_plainValue_83 (x1 : Int32) (h : aH) : Option (Int32 × aH) :=
  some (x1, h)
set_option maxRecDepth 100000 in
set_option maxHeartbeats 4000000 in
theorem t_X7_plainValue_83 {Γ : gS} {d : Nat} (hd : 0 ≤ d) {x1 : Int32} {h : aH} {r : Int32} {h' : aH} (H : f_X7_plainValue_83 x1 h = some (r, h')) : Ex Γ gX7_plainValue d 83 [(1, .int x1)] [] h (some (.int r)) h' := by
  unfold f_X7_plainValue_83 at H
  refine x_iload_n dX7_plainValue_83 rfl 0 rfl ?_
  obtain ⟨rfl, rfl⟩ := so_1 H
  exact x_iret dX7_plainValue_84 rfl rfl
def b_X7_plainValue_44 (k44 : Nat → Int32 → Int32 → aH → Option (Int32 × aH)) (x0 : Nat) (x1 : Int32) (x2 : Int32) (h : aH) : Option (Int32 × aH) :=
  ko h x0 7 <|
  if (hI h x0 4) ≤ x2 then
    f_X7_plainValue_83 x1 h
  else
    if ((hI h x0 3) + 4) ≤ x2 then
      f_X7_plainValue_83 x1 h
    else
      kr (hR h x0 0) fun a4 =>
      ka h a4 .byte fun n7 =>
      chk (inb x2 n7 = true) <|
      nm (((10 * x1) + (hI h a4 x2.toNatClampNeg)) - 48) fun (v9 : Int32) =>
      nm (x2 + 1) fun (v10 : Int32) =>
      k44 x0 v9 v10 h
set_option maxRecDepth 100000 in
set_option maxHeartbeats 4000000 in
theorem tb_X7_plainValue_44 {Γ : gS} {d : Nat} (hd : 0 ≤ d) {k44 : Nat → Int32 → Int32 → aH → Option (Int32 × aH)} (hk44 : ∀ {x0 : Nat} {x1 : Int32} {x2 : Int32} {h : aH} {r : Int32} {h' : aH}, k44 x0 x1 x2 h = some (r, h') → Ex Γ gX7_plainValue d 44 [(0, .ref x0), (1, .int x1), (2, .int x2)] [] h (some (.int r)) h') {x0 : Nat} {x1 : Int32} {x2 : Int32} {h : aH} {r : Int32} {h' : aH} (H : b_X7_plainValue_44 k44 x0 x1 x2 h = some (r, h')) : Ex Γ gX7_plainValue d 44 [(0, .ref x0), (1, .int x1), (2, .int x2)] [] h (some (.int r)) h' := by
  unfold b_X7_plainValue_44 at H
  refine x_iload_n dX7_plainValue_44 rfl 2 rfl ?_
  refine x_aload_n dX7_plainValue_45 rfl 0 rfl ?_
  obtain ⟨c1, H⟩ := ko_o H
  refine x_getI fr_X7_25 dX7_plainValue_46 c1 rfl ?_
  refine x_icmp_ge (tgt := 83) dX7_plainValue_49 (by decide) (fun c2 => ?_) (fun c2 => ?_)
  · replace H := ite_p H c2
    refine Ex.sub [1] rfl ?_
    exact t_X7_plainValue_83 hd H
  · replace H := ite_m H c2
    refine x_iload_n dX7_plainValue_52 rfl 2 rfl ?_
    refine x_aload_n dX7_plainValue_53 rfl 0 rfl ?_
    refine x_getI fr_X7_22 dX7_plainValue_54 c1 rfl ?_
    refine x_iconst (v := 4) dX7_plainValue_57 (by decide) ?_
    refine x_iadd dX7_plainValue_58 ?_
    refine x_icmp_ge (tgt := 83) dX7_plainValue_59 (by decide) (fun c3 => ?_) (fun c3 => ?_)
    · replace H := ite_p H c3
      refine Ex.sub [1] rfl ?_
      exact t_X7_plainValue_83 hd H
    · replace H := ite_m H c3
      refine x_bipush (v := 10) dX7_plainValue_62 (by decide) ?_
      refine x_iload_n dX7_plainValue_64 rfl 1 rfl ?_
      refine x_imul dX7_plainValue_65 ?_
      refine x_aload_n dX7_plainValue_66 rfl 0 rfl ?_
      obtain ⟨a4, c5, H⟩ := kr_o H
      refine x_getR fr_X7_9 dX7_plainValue_67 c1 rfl c5 ?_
      refine x_iload_n dX7_plainValue_70 rfl 2 rfl ?_
      obtain ⟨n7, c6, H⟩ := ka_o H
      obtain ⟨c8, H⟩ := chk_o H
      refine x_bald dX7_plainValue_71 c6 (inb_in.mp c8) ?_
      refine x_iadd dX7_plainValue_72 ?_
      refine x_bipush (v := 48) dX7_plainValue_73 (by decide) ?_
      refine x_isub dX7_plainValue_75 ?_
      obtain ⟨v9, ev9, H⟩ := nm_o H
      refine x_istore_n (lv' := [(1, .int v9), (0, .ref x0), (2, .int x2)]) dX7_plainValue_76 rfl (by decide) ev9 rfl ?_
      obtain ⟨v10, ev10, H⟩ := nm_o H
      refine x_iinc (v := v10) (lv' := [(2, .int v10), (1, .int v9), (0, .ref x0)]) dX7_plainValue_77 2 rfl (by decide) ev10 rfl ?_
      refine x_goto (tgt := 44) dX7_plainValue_80 (by decide) ?_
      refine Ex.sub [2, 1, 0] rfl ?_
      exact hk44 H
def f_X7_plainValue_44 : Nat → Nat → Int32 → Int32 → aH → Option (Int32 × aH)
  | 0 => fun _ _ _ _ => none
  | n + 1 => b_X7_plainValue_44 (f_X7_plainValue_44 n)
set_option maxRecDepth 100000 in
set_option maxHeartbeats 4000000 in
theorem t_X7_plainValue_44 {Γ : gS} {d : Nat} (hd : 0 ≤ d) (n : Nat) : ∀ {x0 : Nat} {x1 : Int32} {x2 : Int32} {h : aH} {r : Int32} {h' : aH}, f_X7_plainValue_44 n x0 x1 x2 h = some (r, h') → Ex Γ gX7_plainValue d 44 [(0, .ref x0), (1, .int x1), (2, .int x2)] [] h (some (.int r)) h' := by
  induction n with
  | zero => intro x0 x1 x2 h r h' H; cases H
  | succ n ih => intro x0 x1 x2 h r h' H; exact tb_X7_plainValue_44 hd ih H
def f_X7_plainValue (x0 : Nat) (h : aH) : Option (Int32 × aH) :=
  ko h x0 7 <|
  if (hI h x0 2) = 2 then
    nm (hI h x0 3) fun (v13 : Int32) =>
    f_X7_plainValue_44 FU x0 0 v13 h
  else
    if (hI h x0 1) ≤ (hI h x0 3) then
      f_X7_plainValue_36 (-1) h
    else
      kr (hR h x0 0) fun a15 =>
      ka h a15 .byte fun n18 =>
      chk (inb (hI h x0 3) n18 = true) <|
      f_X7_plainValue_36 ((hI h a15 (hI h x0 3 : Int32).toNatClampNeg) &&& 255) h
set_option maxRecDepth 100000 in
set_option maxHeartbeats 4000000 in
theorem t_X7_plainValue {Γ : gS} {d : Nat} (hd : 0 ≤ d) {x0 : Nat} {h : aH} {r : Int32} {h' : aH} (H : f_X7_plainValue x0 h = some (r, h')) : Mx Γ gX7_plainValue d [.ref x0] h (some (.int r)) h' := by
  refine Mx.of (by decide +kernel) (Nat.le_of_ble_eq_true rfl) ?_
  unfold f_X7_plainValue at H
  show Ex Γ gX7_plainValue d 0 [(0, .ref x0)] [] h (some (.int r)) h'
  refine x_aload_n dX7_plainValue_0 rfl 0 rfl ?_
  obtain ⟨c11, H⟩ := ko_o H
  refine x_getI fr_X7_19 dX7_plainValue_1 c11 rfl ?_
  refine x_iconst (v := 2) dX7_plainValue_4 (by decide) ?_
  refine x_icmp_eq (tgt := 37) dX7_plainValue_5 (by decide) (fun c12 => ?_) (fun c12 => ?_)
  · replace H := ite_p H c12
    refine x_iconst (v := 0) dX7_plainValue_37 (by decide) ?_
    refine x_istore_n (lv' := [(1, .int 0), (0, .ref x0)]) dX7_plainValue_38 rfl (by decide) rfl rfl ?_
    refine x_aload_n dX7_plainValue_39 rfl 1 rfl ?_
    refine x_getI fr_X7_22 dX7_plainValue_40 c11 rfl ?_
    obtain ⟨v13, ev13, H⟩ := nm_o H
    refine x_istore_n (lv' := [(2, .int v13), (1, .int 0), (0, .ref x0)]) dX7_plainValue_43 rfl (by decide) ev13 rfl ?_
    refine Ex.sub [2, 1, 0] rfl ?_
    exact t_X7_plainValue_44 hd FU H
  · replace H := ite_m H c12
    refine x_aload_n dX7_plainValue_8 rfl 0 rfl ?_
    refine x_getI fr_X7_22 dX7_plainValue_9 c11 rfl ?_
    refine x_aload_n dX7_plainValue_12 rfl 0 rfl ?_
    refine x_getI fr_X7_15 dX7_plainValue_13 c11 rfl ?_
    refine x_icmp_ge (tgt := 35) dX7_plainValue_16 (by decide) (fun c14 => ?_) (fun c14 => ?_)
    · replace H := ite_p H c14
      refine x_iconst (v := (-1)) dX7_plainValue_35 (by decide) ?_
      refine Ex.sub [] rfl ?_
      exact t_X7_plainValue_36 hd H
    · replace H := ite_m H c14
      refine x_aload_n dX7_plainValue_19 rfl 0 rfl ?_
      obtain ⟨a15, c16, H⟩ := kr_o H
      refine x_getR fr_X7_9 dX7_plainValue_20 c11 rfl c16 ?_
      refine x_aload_n dX7_plainValue_23 rfl 0 rfl ?_
      refine x_getI fr_X7_22 dX7_plainValue_24 c11 rfl ?_
      obtain ⟨n18, c17, H⟩ := ka_o H
      obtain ⟨c19, H⟩ := chk_o H
      refine x_bald dX7_plainValue_27 c17 (inb_in.mp c19) ?_
      refine x_sipush (v := 255) dX7_plainValue_28 (by decide) ?_
      refine x_iand dX7_plainValue_31 ?_
      refine x_goto (tgt := 36) dX7_plainValue_32 (by decide) ?_
      refine Ex.sub [] rfl ?_
      exact t_X7_plainValue_36 hd H
def f_X10_numberOf_18 (h : aH) : Option (Int32 × aH) :=
  some ((-1), h)
set_option maxRecDepth 100000 in
set_option maxHeartbeats 4000000 in
theorem t_X10_numberOf_18 {Γ : gS} {d : Nat} (hd : 6 ≤ d) {h : aH} {r : Int32} {h' : aH} (H : f_X10_numberOf_18 h = some (r, h')) : Ex Γ gX10_numberOf d 18 [] [] h (some (.int r)) h' := by
  unfold f_X10_numberOf_18 at H
  obtain ⟨d, rfl⟩ : ∃ e, d = e + 1 := ⟨d - 1, by omega⟩
  refine x_iconst (v := (-1)) dX10_numberOf_18 (by decide) ?_
  obtain ⟨rfl, rfl⟩ := so_1 H
  exact x_iret dX10_numberOf_19 rfl rfl
def f_X10_numberOf_108 (k22 : Nat → Int32 → Int32 → Int32 → aH → Option (Int32 × aH)) (x0 : Nat) (x1 : Int32) (x2 : Int32) (x3 : Int32) (h : aH) : Option (Int32 × aH) :=
  nm (x3 + 1) fun (v1 : Int32) =>
  k22 x0 x1 x2 v1 h
set_option maxRecDepth 100000 in
set_option maxHeartbeats 4000000 in
theorem t_X10_numberOf_108 {Γ : gS} {d : Nat} (hd : 6 ≤ d) {k22 : Nat → Int32 → Int32 → Int32 → aH → Option (Int32 × aH)} (hk22 : ∀ {x0 : Nat} {x1 : Int32} {x2 : Int32} {x3 : Int32} {h : aH} {r : Int32} {h' : aH}, k22 x0 x1 x2 x3 h = some (r, h') → Ex Γ gX10_numberOf d 22 [(0, .ref x0), (1, .int x1), (2, .int x2), (3, .int x3)] [] h (some (.int r)) h') {x0 : Nat} {x1 : Int32} {x2 : Int32} {x3 : Int32} {h : aH} {r : Int32} {h' : aH} (H : f_X10_numberOf_108 k22 x0 x1 x2 x3 h = some (r, h')) : Ex Γ gX10_numberOf d 108 [(0, .ref x0), (1, .int x1), (2, .int x2), (3, .int x3)] [] h (some (.int r)) h' := by
  unfold f_X10_numberOf_108 at H
  obtain ⟨d, rfl⟩ : ∃ e, d = e + 1 := ⟨d - 1, by omega⟩
  obtain ⟨v1, ev1, H⟩ := nm_o H
  refine x_iinc (v := v1) (lv' := [(3, .int v1), (0, .ref x0), (1, .int x1), (2, .int x2)]) dX10_numberOf_108 3 rfl (by decide) ev1 rfl ?_
  refine x_goto (tgt := 22) dX10_numberOf_111 (by decide) ?_
  refine Ex.sub [1, 2, 3, 0] rfl ?_
  exact hk22 H
def f_X10_numberOf_93 (k22 : Nat → Int32 → Int32 → Int32 → aH → Option (Int32 × aH)) (x0 : Nat) (x1 : Int32) (x2 : Int32) (x3 : Int32) (x4 : Int32) (s0 : Int32) (h : aH) : Option (Int32 × aH) :=
  if x4 = x2 then
    if s0 = 0 then
      f_X10_numberOf_108 k22 x0 x1 x2 x3 h
    else
      some (x3, h)
  else
    f_X10_numberOf_108 k22 x0 x1 x2 x3 h
set_option maxRecDepth 100000 in
set_option maxHeartbeats 4000000 in
theorem t_X10_numberOf_93 {Γ : gS} {d : Nat} (hd : 6 ≤ d) {k22 : Nat → Int32 → Int32 → Int32 → aH → Option (Int32 × aH)} (hk22 : ∀ {x0 : Nat} {x1 : Int32} {x2 : Int32} {x3 : Int32} {h : aH} {r : Int32} {h' : aH}, k22 x0 x1 x2 x3 h = some (r, h') → Ex Γ gX10_numberOf d 22 [(0, .ref x0), (1, .int x1), (2, .int x2), (3, .int x3)] [] h (some (.int r)) h') {x0 : Nat} {x1 : Int32} {x2 : Int32} {x3 : Int32} {x4 : Int32} {s0 : Int32} {h : aH} {r : Int32} {h' : aH} (H : f_X10_numberOf_93 k22 x0 x1 x2 x3 x4 s0 h = some (r, h')) : Ex Γ gX10_numberOf d 93 [(0, .ref x0), (1, .int x1), (2, .int x2), (3, .int x3), (4, .int x4)] [.int s0] h (some (.int r)) h' := by
  unfold f_X10_numberOf_93 at H
  obtain ⟨d, rfl⟩ : ∃ e, d = e + 1 := ⟨d - 1, by omega⟩
  refine x_istore (lv' := [(5, .int s0), (0, .ref x0), (1, .int x1), (2, .int x2), (3, .int x3), (4, .int x4)]) dX10_numberOf_93 (by decide) rfl rfl ?_
  refine x_iload dX10_numberOf_95 5 rfl ?_
  refine x_iload_n dX10_numberOf_97 rfl 3 rfl ?_
  refine x_icmp_ne (tgt := 108) dX10_numberOf_98 (by decide) (fun c2 => ?_) (fun c2 => ?_)
  · replace H := ite_m H c2
    refine Ex.sub [1, 2, 3, 4] rfl ?_
    exact t_X10_numberOf_108 hd hk22 H
  · replace H := ite_p H c2
    refine x_iload dX10_numberOf_101 0 rfl ?_
    refine x_if_eq (tgt := 108) dX10_numberOf_103 (by decide) (fun c3 => ?_) (fun c3 => ?_)
    · replace H := ite_p H c3
      refine Ex.sub [1, 2, 3, 4] rfl ?_
      exact t_X10_numberOf_108 hd hk22 H
    · replace H := ite_m H c3
      refine x_iload_n dX10_numberOf_106 rfl 4 rfl ?_
      obtain ⟨rfl, rfl⟩ := so_1 H
      exact x_iret dX10_numberOf_107 rfl rfl
def f_X10_numberOf_88 (k22 : Nat → Int32 → Int32 → Int32 → aH → Option (Int32 × aH)) (x0 : Nat) (x1 : Int32) (x2 : Int32) (x3 : Int32) (x4 : Int32) (h : aH) : Option (Int32 × aH) :=
  f_X10_numberOf_93 k22 x0 x1 x2 x3 x4 1 h
set_option maxRecDepth 100000 in
set_option maxHeartbeats 4000000 in
theorem t_X10_numberOf_88 {Γ : gS} {d : Nat} (hd : 6 ≤ d) {k22 : Nat → Int32 → Int32 → Int32 → aH → Option (Int32 × aH)} (hk22 : ∀ {x0 : Nat} {x1 : Int32} {x2 : Int32} {x3 : Int32} {h : aH} {r : Int32} {h' : aH}, k22 x0 x1 x2 x3 h = some (r, h') → Ex Γ gX10_numberOf d 22 [(0, .ref x0), (1, .int x1), (2, .int x2), (3, .int x3)] [] h (some (.int r)) h') {x0 : Nat} {x1 : Int32} {x2 : Int32} {x3 : Int32} {x4 : Int32} {h : aH} {r : Int32} {h' : aH} (H : f_X10_numberOf_88 k22 x0 x1 x2 x3 x4 h = some (r, h')) : Ex Γ gX10_numberOf d 88 [(0, .ref x0), (1, .int x1), (2, .int x2), (3, .int x3), (4, .int x4)] [] h (some (.int r)) h' := by
  unfold f_X10_numberOf_88 at H
  obtain ⟨d, rfl⟩ : ∃ e, d = e + 1 := ⟨d - 1, by omega⟩
  refine x_iconst (v := 1) dX10_numberOf_88 (by decide) ?_
  refine x_goto (tgt := 93) dX10_numberOf_89 (by decide) ?_
  exact t_X10_numberOf_93 hd hk22 H
def f_X10_numberOf_64 (k22 : Nat → Int32 → Int32 → Int32 → aH → Option (Int32 × aH)) (x0 : Nat) (x1 : Int32) (x2 : Int32) (x3 : Int32) (x4 : Int32) (h : aH) : Option (Int32 × aH) :=
  if x4 = 8 then
    f_X10_numberOf_88 k22 x0 x1 x2 x3 x4 h
  else
    chk (inb ((x3 * 8) + x4) 248 = true) <|
    nm (wch ((x3 * 8) + x4)) fun (v6 : Int32) =>
    if v6 = 32 then
      f_X10_numberOf_88 k22 x0 x1 x2 x3 x4 h
    else
      f_X10_numberOf_93 k22 x0 x1 x2 x3 x4 0 h
set_option maxRecDepth 100000 in
set_option maxHeartbeats 4000000 in
theorem t_X10_numberOf_64 {Γ : gS} {d : Nat} (hd : 6 ≤ d) {k22 : Nat → Int32 → Int32 → Int32 → aH → Option (Int32 × aH)} (hk22 : ∀ {x0 : Nat} {x1 : Int32} {x2 : Int32} {x3 : Int32} {h : aH} {r : Int32} {h' : aH}, k22 x0 x1 x2 x3 h = some (r, h') → Ex Γ gX10_numberOf d 22 [(0, .ref x0), (1, .int x1), (2, .int x2), (3, .int x3)] [] h (some (.int r)) h') {x0 : Nat} {x1 : Int32} {x2 : Int32} {x3 : Int32} {x4 : Int32} {h : aH} {r : Int32} {h' : aH} (H : f_X10_numberOf_64 k22 x0 x1 x2 x3 x4 h = some (r, h')) : Ex Γ gX10_numberOf d 64 [(0, .ref x0), (1, .int x1), (2, .int x2), (3, .int x3), (4, .int x4)] [] h (some (.int r)) h' := by
  unfold f_X10_numberOf_64 at H
  obtain ⟨d, rfl⟩ : ∃ e, d = e + 1 := ⟨d - 1, by omega⟩
  refine x_iload dX10_numberOf_64 4 rfl ?_
  refine x_bipush (v := 8) dX10_numberOf_66 (by decide) ?_
  refine x_icmp_eq (tgt := 88) dX10_numberOf_68 (by decide) (fun c4 => ?_) (fun c4 => ?_)
  · replace H := ite_p H c4
    exact t_X10_numberOf_88 hd hk22 H
  · replace H := ite_m H c4
    refine x_ldcS rfl dX10_numberOf_71 ?_
    refine x_iload_n dX10_numberOf_73 rfl 3 rfl ?_
    refine x_bipush (v := 8) dX10_numberOf_74 (by decide) ?_
    refine x_imul dX10_numberOf_76 ?_
    refine x_iload dX10_numberOf_77 4 rfl ?_
    refine x_iadd dX10_numberOf_79 ?_
    obtain ⟨c5, H⟩ := chk_o H
    obtain ⟨v6, ev6, H⟩ := nm_o H
    refine x_charAt dX10_numberOf_80 lk_X10_13 (inb_in.mp c5) (Nat.le_of_ble_eq_true rfl) (by omega) ?_
    rw [ev6]
    refine x_bipush (v := 32) dX10_numberOf_83 (by decide) ?_
    refine x_icmp_ne (tgt := 92) dX10_numberOf_85 (by decide) (fun c7 => ?_) (fun c7 => ?_)
    · replace H := ite_m H c7
      refine x_iconst (v := 0) dX10_numberOf_92 (by decide) ?_
      exact t_X10_numberOf_93 hd hk22 H
    · replace H := ite_p H c7
      exact t_X10_numberOf_88 hd hk22 H
def b_X10_numberOf_31 (k22 : Nat → Int32 → Int32 → Int32 → aH → Option (Int32 × aH)) (k31 : Nat → Int32 → Int32 → Int32 → Int32 → aH → Option (Int32 × aH)) (x0 : Nat) (x1 : Int32) (x2 : Int32) (x3 : Int32) (x4 : Int32) (h : aH) : Option (Int32 × aH) :=
  if x2 ≤ x4 then
    f_X10_numberOf_64 k22 x0 x1 x2 x3 x4 h
  else
    chk (inb ((x3 * 8) + x4) 248 = true) <|
    nm (wch ((x3 * 8) + x4)) fun (v10 : Int32) =>
    ka h x0 .byte fun n12 =>
    chk (inb (x1 + x4) n12 = true) <|
    if v10 = (hI h x0 (x1 + x4 : Int32).toNatClampNeg) then
      nm (x4 + 1) fun (v15 : Int32) =>
      k31 x0 x1 x2 x3 v15 h
    else
      f_X10_numberOf_64 k22 x0 x1 x2 x3 x4 h
set_option maxRecDepth 100000 in
set_option maxHeartbeats 4000000 in
theorem tb_X10_numberOf_31 {Γ : gS} {d : Nat} (hd : 6 ≤ d) {k22 : Nat → Int32 → Int32 → Int32 → aH → Option (Int32 × aH)} (hk22 : ∀ {x0 : Nat} {x1 : Int32} {x2 : Int32} {x3 : Int32} {h : aH} {r : Int32} {h' : aH}, k22 x0 x1 x2 x3 h = some (r, h') → Ex Γ gX10_numberOf d 22 [(0, .ref x0), (1, .int x1), (2, .int x2), (3, .int x3)] [] h (some (.int r)) h') {k31 : Nat → Int32 → Int32 → Int32 → Int32 → aH → Option (Int32 × aH)} (hk31 : ∀ {x0 : Nat} {x1 : Int32} {x2 : Int32} {x3 : Int32} {x4 : Int32} {h : aH} {r : Int32} {h' : aH}, k31 x0 x1 x2 x3 x4 h = some (r, h') → Ex Γ gX10_numberOf d 31 [(0, .ref x0), (1, .int x1), (2, .int x2), (3, .int x3), (4, .int x4)] [] h (some (.int r)) h') {x0 : Nat} {x1 : Int32} {x2 : Int32} {x3 : Int32} {x4 : Int32} {h : aH} {r : Int32} {h' : aH} (H : b_X10_numberOf_31 k22 k31 x0 x1 x2 x3 x4 h = some (r, h')) : Ex Γ gX10_numberOf d 31 [(0, .ref x0), (1, .int x1), (2, .int x2), (3, .int x3), (4, .int x4)] [] h (some (.int r)) h' := by
  unfold b_X10_numberOf_31 at H
  obtain ⟨d, rfl⟩ : ∃ e, d = e + 1 := ⟨d - 1, by omega⟩
  refine x_iload dX10_numberOf_31 4 rfl ?_
  refine x_iload_n dX10_numberOf_33 rfl 2 rfl ?_
  refine x_icmp_ge (tgt := 64) dX10_numberOf_34 (by decide) (fun c8 => ?_) (fun c8 => ?_)
  · replace H := ite_p H c8
    exact t_X10_numberOf_64 hd hk22 H
  · replace H := ite_m H c8
    refine x_ldcS rfl dX10_numberOf_37 ?_
    refine x_iload_n dX10_numberOf_39 rfl 3 rfl ?_
    refine x_bipush (v := 8) dX10_numberOf_40 (by decide) ?_
    refine x_imul dX10_numberOf_42 ?_
    refine x_iload dX10_numberOf_43 4 rfl ?_
    refine x_iadd dX10_numberOf_45 ?_
    obtain ⟨c9, H⟩ := chk_o H
    obtain ⟨v10, ev10, H⟩ := nm_o H
    refine x_charAt dX10_numberOf_46 lk_X10_13 (inb_in.mp c9) (Nat.le_of_ble_eq_true rfl) (by omega) ?_
    rw [ev10]
    refine x_aload_n dX10_numberOf_49 rfl 0 rfl ?_
    refine x_iload_n dX10_numberOf_50 rfl 1 rfl ?_
    refine x_iload dX10_numberOf_51 4 rfl ?_
    refine x_iadd dX10_numberOf_53 ?_
    obtain ⟨n12, c11, H⟩ := ka_o H
    obtain ⟨c13, H⟩ := chk_o H
    refine x_bald dX10_numberOf_54 c11 (inb_in.mp c13) ?_
    refine x_icmp_ne (tgt := 64) dX10_numberOf_55 (by decide) (fun c14 => ?_) (fun c14 => ?_)
    · replace H := ite_m H c14
      exact t_X10_numberOf_64 hd hk22 H
    · replace H := ite_p H c14
      obtain ⟨v15, ev15, H⟩ := nm_o H
      refine x_iinc (v := v15) (lv' := [(4, .int v15), (0, .ref x0), (1, .int x1), (2, .int x2), (3, .int x3)]) dX10_numberOf_58 4 rfl (by decide) ev15 rfl ?_
      refine x_goto (tgt := 31) dX10_numberOf_61 (by decide) ?_
      refine Ex.sub [1, 2, 3, 4, 0] rfl ?_
      exact hk31 H
def f_X10_numberOf_31 (k22 : Nat → Int32 → Int32 → Int32 → aH → Option (Int32 × aH)) : Nat → Nat → Int32 → Int32 → Int32 → Int32 → aH → Option (Int32 × aH)
  | 0 => fun _ _ _ _ _ _ => none
  | n + 1 => b_X10_numberOf_31 k22 (f_X10_numberOf_31 k22 n)
set_option maxRecDepth 100000 in
set_option maxHeartbeats 4000000 in
theorem t_X10_numberOf_31 {Γ : gS} {d : Nat} (hd : 6 ≤ d) {k22 : Nat → Int32 → Int32 → Int32 → aH → Option (Int32 × aH)} (hk22 : ∀ {x0 : Nat} {x1 : Int32} {x2 : Int32} {x3 : Int32} {h : aH} {r : Int32} {h' : aH}, k22 x0 x1 x2 x3 h = some (r, h') → Ex Γ gX10_numberOf d 22 [(0, .ref x0), (1, .int x1), (2, .int x2), (3, .int x3)] [] h (some (.int r)) h') (n : Nat) : ∀ {x0 : Nat} {x1 : Int32} {x2 : Int32} {x3 : Int32} {x4 : Int32} {h : aH} {r : Int32} {h' : aH}, f_X10_numberOf_31 k22 n x0 x1 x2 x3 x4 h = some (r, h') → Ex Γ gX10_numberOf d 31 [(0, .ref x0), (1, .int x1), (2, .int x2), (3, .int x3), (4, .int x4)] [] h (some (.int r)) h' := by
  induction n with
  | zero => intro x0 x1 x2 x3 x4 h r h' H; cases H
  | succ n ih => intro x0 x1 x2 x3 x4 h r h' H; exact tb_X10_numberOf_31 hd hk22 ih H
def b_X10_numberOf_22 (k22 : Nat → Int32 → Int32 → Int32 → aH → Option (Int32 × aH)) (x0 : Nat) (x1 : Int32) (x2 : Int32) (x3 : Int32) (h : aH) : Option (Int32 × aH) :=
  if 31 ≤ x3 then
    some ((-1), h)
  else
    f_X10_numberOf_31 k22 FU x0 x1 x2 x3 0 h
set_option maxRecDepth 100000 in
set_option maxHeartbeats 4000000 in
theorem tb_X10_numberOf_22 {Γ : gS} {d : Nat} (hd : 6 ≤ d) {k22 : Nat → Int32 → Int32 → Int32 → aH → Option (Int32 × aH)} (hk22 : ∀ {x0 : Nat} {x1 : Int32} {x2 : Int32} {x3 : Int32} {h : aH} {r : Int32} {h' : aH}, k22 x0 x1 x2 x3 h = some (r, h') → Ex Γ gX10_numberOf d 22 [(0, .ref x0), (1, .int x1), (2, .int x2), (3, .int x3)] [] h (some (.int r)) h') {x0 : Nat} {x1 : Int32} {x2 : Int32} {x3 : Int32} {h : aH} {r : Int32} {h' : aH} (H : b_X10_numberOf_22 k22 x0 x1 x2 x3 h = some (r, h')) : Ex Γ gX10_numberOf d 22 [(0, .ref x0), (1, .int x1), (2, .int x2), (3, .int x3)] [] h (some (.int r)) h' := by
  unfold b_X10_numberOf_22 at H
  obtain ⟨d, rfl⟩ : ∃ e, d = e + 1 := ⟨d - 1, by omega⟩
  refine x_iload_n dX10_numberOf_22 rfl 3 rfl ?_
  refine x_bipush (v := 31) dX10_numberOf_23 (by decide) ?_
  refine x_icmp_ge (tgt := 114) dX10_numberOf_25 (by decide) (fun c16 => ?_) (fun c16 => ?_)
  · replace H := ite_p H c16
    refine x_iconst (v := (-1)) dX10_numberOf_114 (by decide) ?_
    obtain ⟨rfl, rfl⟩ := so_1 H
    exact x_iret dX10_numberOf_115 rfl rfl
  · replace H := ite_m H c16
    refine x_iconst (v := 0) dX10_numberOf_28 (by decide) ?_
    refine x_istore (lv' := [(4, .int 0), (0, .ref x0), (1, .int x1), (2, .int x2), (3, .int x3)]) dX10_numberOf_29 (by decide) rfl rfl ?_
    refine Ex.sub [1, 2, 3, 4, 0] rfl ?_
    exact t_X10_numberOf_31 hd hk22 FU H
def f_X10_numberOf_22 : Nat → Nat → Int32 → Int32 → Int32 → aH → Option (Int32 × aH)
  | 0 => fun _ _ _ _ _ => none
  | n + 1 => b_X10_numberOf_22 (f_X10_numberOf_22 n)
set_option maxRecDepth 100000 in
set_option maxHeartbeats 4000000 in
theorem t_X10_numberOf_22 {Γ : gS} {d : Nat} (hd : 6 ≤ d) (n : Nat) : ∀ {x0 : Nat} {x1 : Int32} {x2 : Int32} {x3 : Int32} {h : aH} {r : Int32} {h' : aH}, f_X10_numberOf_22 n x0 x1 x2 x3 h = some (r, h') → Ex Γ gX10_numberOf d 22 [(0, .ref x0), (1, .int x1), (2, .int x2), (3, .int x3)] [] h (some (.int r)) h' := by
  induction n with
  | zero => intro x0 x1 x2 x3 h r h' H; cases H
  | succ n ih => intro x0 x1 x2 x3 h r h' H; exact tb_X10_numberOf_22 hd ih H
def f_X10_numberOf (x0 : Nat) (x1 : Int32) (x2 : Int32) (h : aH) : Option (Int32 × aH) :=
  if 8 < x2 then
    f_X10_numberOf_18 h
  else
    if x1 < 0 then
      f_X10_numberOf_18 h
    else
      ka h x0 .byte fun n20 =>
      if (x1 + x2) ≤ (Int32.ofNat n20) then
        f_X10_numberOf_22 FU x0 x1 x2 0 h
      else
        f_X10_numberOf_18 h
set_option maxRecDepth 100000 in
set_option maxHeartbeats 4000000 in
theorem t_X10_numberOf {Γ : gS} {d : Nat} (hd : 6 ≤ d) {x0 : Nat} {x1 : Int32} {x2 : Int32} {h : aH} {r : Int32} {h' : aH} (H : f_X10_numberOf x0 x1 x2 h = some (r, h')) : Mx Γ gX10_numberOf d [.ref x0, .int x1, .int x2] h (some (.int r)) h' := by
  refine Mx.of (by decide +kernel) (Nat.le_of_ble_eq_true rfl) ?_
  unfold f_X10_numberOf at H
  show Ex Γ gX10_numberOf d 0 [(0, .ref x0), (1, .int x1), (2, .int x2)] [] h (some (.int r)) h'
  obtain ⟨d, rfl⟩ : ∃ e, d = e + 1 := ⟨d - 1, by omega⟩
  refine x_iload_n dX10_numberOf_0 rfl 2 rfl ?_
  refine x_bipush (v := 8) dX10_numberOf_1 (by decide) ?_
  refine x_icmp_gt (tgt := 18) dX10_numberOf_3 (by decide) (fun c17 => ?_) (fun c17 => ?_)
  · replace H := ite_p H c17
    refine Ex.sub [] rfl ?_
    exact t_X10_numberOf_18 hd H
  · replace H := ite_m H c17
    refine x_iload_n dX10_numberOf_6 rfl 1 rfl ?_
    refine x_if_lt (tgt := 18) dX10_numberOf_7 (by decide) (fun c18 => ?_) (fun c18 => ?_)
    · replace H := ite_p H c18
      refine Ex.sub [] rfl ?_
      exact t_X10_numberOf_18 hd H
    · replace H := ite_m H c18
      refine x_iload_n dX10_numberOf_10 rfl 1 rfl ?_
      refine x_iload_n dX10_numberOf_11 rfl 2 rfl ?_
      refine x_iadd dX10_numberOf_12 ?_
      refine x_aload_n dX10_numberOf_13 rfl 0 rfl ?_
      obtain ⟨n20, c19, H⟩ := ka_o H
      refine x_alen dX10_numberOf_14 c19 (by decide) ?_
      refine x_icmp_le (tgt := 20) dX10_numberOf_15 (by decide) (fun c21 => ?_) (fun c21 => ?_)
      · replace H := ite_p H c21
        refine x_iconst (v := 0) dX10_numberOf_20 (by decide) ?_
        refine x_istore_n (lv' := [(3, .int 0), (0, .ref x0), (1, .int x1), (2, .int x2)]) dX10_numberOf_21 rfl (by decide) rfl rfl ?_
        refine Ex.sub [1, 2, 3, 0] rfl ?_
        exact t_X10_numberOf_22 hd FU H
      · replace H := ite_m H c21
        refine Ex.sub [] rfl ?_
        exact t_X10_numberOf_18 hd H
def f_X7_next_233 (h : aH) : Option (Unit × aH) :=
  some ((), h)
set_option maxRecDepth 100000 in
set_option maxHeartbeats 4000000 in
theorem t_X7_next_233 {Γ : gS} {d : Nat} (hd : 7 ≤ d) {h : aH} {r : Unit} {h' : aH} (H : f_X7_next_233 h = some (r, h')) : Ex Γ gX7_next d 233 [] [] h none h' := by
  unfold f_X7_next_233 at H
  obtain ⟨d, rfl⟩ : ∃ e, d = e + 1 := ⟨d - 1, by omega⟩
  obtain ⟨-, rfl⟩ := so_1 H
  exact x_vret dX7_next_233 rfl
def f_X7_next_217 (x0 : Nat) (x2 : Int32) (x3 : Int32) (s0 : Nat) (s1 : Int32) (h : aH) : Option (Unit × aH) :=
  ko h s0 7 <|
  if x2 = 0 then
    f_X7_next_233 (sI h s0 5 s1)
  else
    if x3 = 0 then
      f_X7_next_233 (sI h s0 5 s1)
    else
      ko h x0 7 <|
      f_X7_next_233 (sI (sI h s0 5 s1) x0 2 4)
set_option maxRecDepth 100000 in
set_option maxHeartbeats 4000000 in
theorem t_X7_next_217 {Γ : gS} {d : Nat} (hd : 7 ≤ d) {x0 : Nat} {x2 : Int32} {x3 : Int32} {s0 : Nat} {s1 : Int32} {h : aH} {r : Unit} {h' : aH} (H : f_X7_next_217 x0 x2 x3 s0 s1 h = some (r, h')) : Ex Γ gX7_next d 217 [(0, .ref x0), (2, .int x2), (3, .int x3)] [.int s1, .ref s0] h none h' := by
  unfold f_X7_next_217 at H
  obtain ⟨d, rfl⟩ : ∃ e, d = e + 1 := ⟨d - 1, by omega⟩
  obtain ⟨c1, H⟩ := ko_o H
  refine x_putI fl_X7_28 dX7_next_217 c1 (fun e => by cases e) rfl ?_
  refine x_iload_n dX7_next_220 rfl 1 rfl ?_
  refine x_if_eq (tgt := 233) dX7_next_221 (by decide) (fun c2 => ?_) (fun c2 => ?_)
  · replace H := ite_p H c2
    refine Ex.sub [] rfl ?_
    exact t_X7_next_233 hd H
  · replace H := ite_m H c2
    refine x_iload_n dX7_next_224 rfl 2 rfl ?_
    refine x_if_eq (tgt := 233) dX7_next_225 (by decide) (fun c3 => ?_) (fun c3 => ?_)
    · replace H := ite_p H c3
      refine Ex.sub [] rfl ?_
      exact t_X7_next_233 hd H
    · replace H := ite_m H c3
      refine x_aload_n dX7_next_228 rfl 0 rfl ?_
      refine x_iconst (v := 4) dX7_next_229 (by decide) ?_
      obtain ⟨c4, H⟩ := ko_o H
      refine x_putI fl_X7_19 dX7_next_230 c4 (fun e => by cases e) rfl ?_
      refine Ex.sub [] rfl ?_
      exact t_X7_next_233 hd H
def f_X7_next_181 (x0 : Nat) (x2 : Int32) (x3 : Int32) (h : aH) : Option (Unit × aH) :=
  ko h x0 7 <|
  if (hI h x0 2) = 1 then
    kr (hR h x0 0) fun a10 =>
    bd (f_X10_numberOf a10 (hI h x0 3) ((hI h x0 4) - (hI h x0 3)) h) fun v12 h13 =>
    f_X7_next_217 x0 x2 x3 x0 v12 h13
  else
    bd (f_X7_plainValue x0 h) fun v7 h8 =>
    f_X7_next_217 x0 x2 x3 x0 v7 h8
set_option maxRecDepth 100000 in
set_option maxHeartbeats 4000000 in
theorem t_X7_next_181 {Γ : gS} {d : Nat} (hd : 7 ≤ d) {x0 : Nat} {x2 : Int32} {x3 : Int32} {h : aH} {r : Unit} {h' : aH} (H : f_X7_next_181 x0 x2 x3 h = some (r, h')) : Ex Γ gX7_next d 181 [(0, .ref x0), (2, .int x2), (3, .int x3)] [] h none h' := by
  unfold f_X7_next_181 at H
  obtain ⟨d, rfl⟩ : ∃ e, d = e + 1 := ⟨d - 1, by omega⟩
  refine x_aload_n dX7_next_181 rfl 0 rfl ?_
  refine x_aload_n dX7_next_182 rfl 0 rfl ?_
  obtain ⟨c5, H⟩ := ko_o H
  refine x_getI fr_X7_19 dX7_next_183 c5 rfl ?_
  refine x_iconst (v := 1) dX7_next_186 (by decide) ?_
  refine x_icmp_ne (tgt := 213) dX7_next_187 (by decide) (fun c6 => ?_) (fun c6 => ?_)
  · replace H := ite_m H c6
    refine x_aload_n dX7_next_213 rfl 0 rfl ?_
    obtain ⟨v7, h8, hc9, H⟩ := bd_o H
    refine x_callVi (As := []) (q := (RX7, TX7, 6)) dX7_next_214 mi_X7_plainValue lk_X7_50 im_X7_plainValue se_X7_plainValue rfl c5 rfl rfl (Nat.le_of_ble_eq_true rfl) (t_X7_plainValue (by omega) hc9) ?_
    exact t_X7_next_217 hd H
  · replace H := ite_p H c6
    refine x_aload_n dX7_next_190 rfl 0 rfl ?_
    obtain ⟨a10, c11, H⟩ := kr_o H
    refine x_getR fr_X7_9 dX7_next_191 c5 rfl c11 ?_
    refine x_aload_n dX7_next_194 rfl 0 rfl ?_
    refine x_getI fr_X7_22 dX7_next_195 c5 rfl ?_
    refine x_aload_n dX7_next_198 rfl 0 rfl ?_
    refine x_getI fr_X7_25 dX7_next_199 c5 rfl ?_
    refine x_aload_n dX7_next_202 rfl 0 rfl ?_
    refine x_getI fr_X7_22 dX7_next_203 c5 rfl ?_
    refine x_isub dX7_next_206 ?_
    obtain ⟨v12, h13, hc14, H⟩ := bd_o H
    refine x_callSi (As := [.ref a10, .int (hI h x0 3), .int ((hI h x0 4) - (hI h x0 3))]) dX7_next_207 mi_X10_numberOf lk_X7_44 sm_X10_numberOf rfl rfl (Nat.le_of_ble_eq_true rfl) (t_X10_numberOf (by omega) hc14) ?_
    refine x_goto (tgt := 217) dX7_next_210 (by decide) ?_
    exact t_X7_next_217 hd H
def b_X7_next_138 (k138 : Nat → Int32 → Int32 → aH → Option (Unit × aH)) (x0 : Nat) (x2 : Int32) (x3 : Int32) (h : aH) : Option (Unit × aH) :=
  if x3 = 0 then
    f_X7_next_181 x0 x2 x3 h
  else
    ko h x0 7 <|
    if (hI h x0 1) ≤ (hI h x0 4) then
      f_X7_next_181 x0 x2 x3 h
    else
      bd (f_X7_kindAt x0 (hI h x0 4) h) fun v18 h19 =>
      ko h19 x0 7 <|
      if v18 = (hI h19 x0 2) then
        k138 x0 x2 x3 (sI h19 x0 4 ((hI h19 x0 4) + 1))
      else
        f_X7_next_181 x0 x2 x3 h19
set_option maxRecDepth 100000 in
set_option maxHeartbeats 4000000 in
theorem tb_X7_next_138 {Γ : gS} {d : Nat} (hd : 7 ≤ d) {k138 : Nat → Int32 → Int32 → aH → Option (Unit × aH)} (hk138 : ∀ {x0 : Nat} {x2 : Int32} {x3 : Int32} {h : aH} {r : Unit} {h' : aH}, k138 x0 x2 x3 h = some (r, h') → Ex Γ gX7_next d 138 [(0, .ref x0), (2, .int x2), (3, .int x3)] [] h none h') {x0 : Nat} {x2 : Int32} {x3 : Int32} {h : aH} {r : Unit} {h' : aH} (H : b_X7_next_138 k138 x0 x2 x3 h = some (r, h')) : Ex Γ gX7_next d 138 [(0, .ref x0), (2, .int x2), (3, .int x3)] [] h none h' := by
  unfold b_X7_next_138 at H
  obtain ⟨d, rfl⟩ : ∃ e, d = e + 1 := ⟨d - 1, by omega⟩
  refine x_iload_n dX7_next_138 rfl 2 rfl ?_
  refine x_if_eq (tgt := 181) dX7_next_139 (by decide) (fun c15 => ?_) (fun c15 => ?_)
  · replace H := ite_p H c15
    exact t_X7_next_181 hd H
  · replace H := ite_m H c15
    refine x_aload_n dX7_next_142 rfl 0 rfl ?_
    obtain ⟨c16, H⟩ := ko_o H
    refine x_getI fr_X7_25 dX7_next_143 c16 rfl ?_
    refine x_aload_n dX7_next_146 rfl 0 rfl ?_
    refine x_getI fr_X7_15 dX7_next_147 c16 rfl ?_
    refine x_icmp_ge (tgt := 181) dX7_next_150 (by decide) (fun c17 => ?_) (fun c17 => ?_)
    · replace H := ite_p H c17
      exact t_X7_next_181 hd H
    · replace H := ite_m H c17
      refine x_aload_n dX7_next_153 rfl 0 rfl ?_
      refine x_aload_n dX7_next_154 rfl 0 rfl ?_
      refine x_getI fr_X7_25 dX7_next_155 c16 rfl ?_
      obtain ⟨v18, h19, hc20, H⟩ := bd_o H
      refine x_callVi (As := [.int (hI h x0 4)]) (q := (RX7, TX7, 6)) dX7_next_158 mi_X7_kindAt lk_X7_40 im_X7_kindAt se_X7_kindAt rfl c16 rfl rfl (Nat.le_of_ble_eq_true rfl) (t_X7_kindAt (by omega) hc20) ?_
      refine x_aload_n dX7_next_161 rfl 0 rfl ?_
      obtain ⟨c21, H⟩ := ko_o H
      refine x_getI fr_X7_19 dX7_next_162 c21 rfl ?_
      refine x_icmp_ne (tgt := 181) dX7_next_165 (by decide) (fun c22 => ?_) (fun c22 => ?_)
      · replace H := ite_m H c22
        exact t_X7_next_181 hd H
      · replace H := ite_p H c22
        refine x_aload_n dX7_next_168 rfl 0 rfl ?_
        refine x_dup dX7_next_169 rfl ?_
        refine x_getI fr_X7_25 dX7_next_170 c21 rfl ?_
        refine x_iconst (v := 1) dX7_next_173 (by decide) ?_
        refine x_iadd dX7_next_174 ?_
        refine x_putI fl_X7_25 dX7_next_175 c21 (fun e => by cases e) rfl ?_
        refine x_goto (tgt := 138) dX7_next_178 (by decide) ?_
        exact hk138 H
def f_X7_next_138 : Nat → Nat → Int32 → Int32 → aH → Option (Unit × aH)
  | 0 => fun _ _ _ _ => none
  | n + 1 => b_X7_next_138 (f_X7_next_138 n)
set_option maxRecDepth 100000 in
set_option maxHeartbeats 4000000 in
theorem t_X7_next_138 {Γ : gS} {d : Nat} (hd : 7 ≤ d) (n : Nat) : ∀ {x0 : Nat} {x2 : Int32} {x3 : Int32} {h : aH} {r : Unit} {h' : aH}, f_X7_next_138 n x0 x2 x3 h = some (r, h') → Ex Γ gX7_next d 138 [(0, .ref x0), (2, .int x2), (3, .int x3)] [] h none h' := by
  induction n with
  | zero => intro x0 x2 x3 h r h' H; cases H
  | succ n ih => intro x0 x2 x3 h r h' H; exact tb_X7_next_138 hd ih H
def f_X7_next_120 (x0 : Nat) (x2 : Int32) (s0 : Int32) (h : aH) : Option (Unit × aH) :=
  ko h x0 7 <|
  bd (f_J9_min_7cf53 ((hI h x0 3) + 1) (hI h x0 1) h) fun v24 h25 =>
  ko h25 x0 7 <|
  f_X7_next_138 FU x0 x2 s0 (sI h25 x0 4 v24)
set_option maxRecDepth 100000 in
set_option maxHeartbeats 4000000 in
theorem t_X7_next_120 {Γ : gS} {d : Nat} (hd : 7 ≤ d) {x0 : Nat} {x2 : Int32} {s0 : Int32} {h : aH} {r : Unit} {h' : aH} (H : f_X7_next_120 x0 x2 s0 h = some (r, h')) : Ex Γ gX7_next d 120 [(0, .ref x0), (2, .int x2)] [.int s0] h none h' := by
  unfold f_X7_next_120 at H
  obtain ⟨d, rfl⟩ : ∃ e, d = e + 1 := ⟨d - 1, by omega⟩
  refine x_istore_n (lv' := [(3, .int s0), (0, .ref x0), (2, .int x2)]) dX7_next_120 rfl (by decide) rfl rfl ?_
  refine x_aload_n dX7_next_121 rfl 1 rfl ?_
  refine x_aload_n dX7_next_122 rfl 1 rfl ?_
  obtain ⟨c23, H⟩ := ko_o H
  refine x_getI fr_X7_22 dX7_next_123 c23 rfl ?_
  refine x_iconst (v := 1) dX7_next_126 (by decide) ?_
  refine x_iadd dX7_next_127 ?_
  refine x_aload_n dX7_next_128 rfl 1 rfl ?_
  refine x_getI fr_X7_15 dX7_next_129 c23 rfl ?_
  obtain ⟨v24, h25, hc26, H⟩ := bd_o H
  refine x_callSi (As := [.int ((hI h x0 3) + 1), .int (hI h x0 1)]) dX7_next_132 mi_J9_min_7cf53 lk_X7_31 sm_J9_min_7cf53 rfl rfl (Nat.le_of_ble_eq_true rfl) (t_J9_min_7cf53 (by omega) hc26) ?_
  obtain ⟨c27, H⟩ := ko_o H
  refine x_putI fl_X7_25 dX7_next_135 c27 (fun e => by cases e) rfl ?_
  refine Ex.sub [1, 2, 0] rfl ?_
  exact t_X7_next_138 hd FU H
def f_X7_next_115 (x0 : Nat) (x2 : Int32) (h : aH) : Option (Unit × aH) :=
  f_X7_next_120 x0 x2 1 h
set_option maxRecDepth 100000 in
set_option maxHeartbeats 4000000 in
theorem t_X7_next_115 {Γ : gS} {d : Nat} (hd : 7 ≤ d) {x0 : Nat} {x2 : Int32} {h : aH} {r : Unit} {h' : aH} (H : f_X7_next_115 x0 x2 h = some (r, h')) : Ex Γ gX7_next d 115 [(0, .ref x0), (2, .int x2)] [] h none h' := by
  unfold f_X7_next_115 at H
  obtain ⟨d, rfl⟩ : ∃ e, d = e + 1 := ⟨d - 1, by omega⟩
  refine x_iconst (v := 1) dX7_next_115 (by decide) ?_
  refine x_goto (tgt := 120) dX7_next_116 (by decide) ?_
  exact t_X7_next_120 hd H
def f_X7_next_86 (x0 : Nat) (s0 : Int32) (h : aH) : Option (Unit × aH) :=
  ko h x0 7 <|
  bd (f_X7_kindAt x0 (hI h x0 3) h) fun v29 h30 =>
  ko h30 x0 7 <|
  nm (hI (sI h30 x0 2 v29) x0 2) fun (v33 : Int32) =>
  if v33 = 1 then
    f_X7_next_115 x0 s0 (sI h30 x0 2 v29)
  else
    nm (hI (sI h30 x0 2 v29) x0 2) fun (v35 : Int32) =>
    if v35 = 2 then
      f_X7_next_115 x0 s0 (sI h30 x0 2 v29)
    else
      f_X7_next_120 x0 s0 0 (sI h30 x0 2 v29)
set_option maxRecDepth 100000 in
set_option maxHeartbeats 4000000 in
theorem t_X7_next_86 {Γ : gS} {d : Nat} (hd : 7 ≤ d) {x0 : Nat} {s0 : Int32} {h : aH} {r : Unit} {h' : aH} (H : f_X7_next_86 x0 s0 h = some (r, h')) : Ex Γ gX7_next d 86 [(0, .ref x0)] [.int s0] h none h' := by
  unfold f_X7_next_86 at H
  obtain ⟨d, rfl⟩ : ∃ e, d = e + 1 := ⟨d - 1, by omega⟩
  refine x_istore_n (lv' := [(2, .int s0), (0, .ref x0)]) dX7_next_86 rfl (by decide) rfl rfl ?_
  refine x_aload_n dX7_next_87 rfl 1 rfl ?_
  refine x_aload_n dX7_next_88 rfl 1 rfl ?_
  refine x_aload_n dX7_next_89 rfl 1 rfl ?_
  obtain ⟨c28, H⟩ := ko_o H
  refine x_getI fr_X7_22 dX7_next_90 c28 rfl ?_
  obtain ⟨v29, h30, hc31, H⟩ := bd_o H
  refine x_callVi (As := [.int (hI h x0 3)]) (q := (RX7, TX7, 6)) dX7_next_93 mi_X7_kindAt lk_X7_40 im_X7_kindAt se_X7_kindAt rfl c28 rfl rfl (Nat.le_of_ble_eq_true rfl) (t_X7_kindAt (by omega) hc31) ?_
  obtain ⟨c32, H⟩ := ko_o H
  refine x_putI fl_X7_19 dX7_next_96 c32 (fun e => by cases e) rfl ?_
  refine x_aload_n dX7_next_99 rfl 1 rfl ?_
  obtain ⟨v33, ev33, H⟩ := nm_o H
  refine x_getIe fr_X7_19 dX7_next_100 c32 rfl ev33 ?_
  refine x_iconst (v := 1) dX7_next_103 (by decide) ?_
  refine x_icmp_eq (tgt := 115) dX7_next_104 (by decide) (fun c34 => ?_) (fun c34 => ?_)
  · replace H := ite_p H c34
    refine Ex.sub [1, 0] rfl ?_
    exact t_X7_next_115 hd H
  · replace H := ite_m H c34
    refine x_aload_n dX7_next_107 rfl 1 rfl ?_
    obtain ⟨v35, ev35, H⟩ := nm_o H
    refine x_getIe fr_X7_19 dX7_next_108 c32 rfl ev35 ?_
    refine x_iconst (v := 2) dX7_next_111 (by decide) ?_
    refine x_icmp_ne (tgt := 119) dX7_next_112 (by decide) (fun c36 => ?_) (fun c36 => ?_)
    · replace H := ite_m H c36
      refine x_iconst (v := 0) dX7_next_119 (by decide) ?_
      refine Ex.sub [1, 0] rfl ?_
      exact t_X7_next_120 hd H
    · replace H := ite_p H c36
      refine Ex.sub [1, 0] rfl ?_
      exact t_X7_next_115 hd H
def f_X7_next_85 (x0 : Nat) (h : aH) : Option (Unit × aH) :=
  f_X7_next_86 x0 0 h
set_option maxRecDepth 100000 in
set_option maxHeartbeats 4000000 in
theorem t_X7_next_85 {Γ : gS} {d : Nat} (hd : 7 ≤ d) {x0 : Nat} {h : aH} {r : Unit} {h' : aH} (H : f_X7_next_85 x0 h = some (r, h')) : Ex Γ gX7_next d 85 [(0, .ref x0)] [] h none h' := by
  unfold f_X7_next_85 at H
  obtain ⟨d, rfl⟩ : ∃ e, d = e + 1 := ⟨d - 1, by omega⟩
  refine x_iconst (v := 0) dX7_next_85 (by decide) ?_
  exact t_X7_next_86 hd H
def f_X7_next_66 (x0 : Nat) (x1 : Int32) (h : aH) : Option (Unit × aH) :=
  if x1 = 0 then
    f_X7_next_85 x0 h
  else
    ko h x0 7 <|
    if (hI h x0 3) = (hI h x0 4) then
      f_X7_next_86 x0 1 h
    else
      f_X7_next_85 x0 h
set_option maxRecDepth 100000 in
set_option maxHeartbeats 4000000 in
theorem t_X7_next_66 {Γ : gS} {d : Nat} (hd : 7 ≤ d) {x0 : Nat} {x1 : Int32} {h : aH} {r : Unit} {h' : aH} (H : f_X7_next_66 x0 x1 h = some (r, h')) : Ex Γ gX7_next d 66 [(0, .ref x0), (1, .int x1)] [] h none h' := by
  unfold f_X7_next_66 at H
  obtain ⟨d, rfl⟩ : ∃ e, d = e + 1 := ⟨d - 1, by omega⟩
  refine x_iload_n dX7_next_66 rfl 1 rfl ?_
  refine x_if_eq (tgt := 85) dX7_next_67 (by decide) (fun c37 => ?_) (fun c37 => ?_)
  · replace H := ite_p H c37
    refine Ex.sub [0] rfl ?_
    exact t_X7_next_85 hd H
  · replace H := ite_m H c37
    refine x_aload_n dX7_next_70 rfl 0 rfl ?_
    obtain ⟨c38, H⟩ := ko_o H
    refine x_getI fr_X7_22 dX7_next_71 c38 rfl ?_
    refine x_aload_n dX7_next_74 rfl 0 rfl ?_
    refine x_getI fr_X7_25 dX7_next_75 c38 rfl ?_
    refine x_icmp_ne (tgt := 85) dX7_next_78 (by decide) (fun c39 => ?_) (fun c39 => ?_)
    · replace H := ite_m H c39
      refine Ex.sub [0] rfl ?_
      exact t_X7_next_85 hd H
    · replace H := ite_p H c39
      refine x_iconst (v := 1) dX7_next_81 (by decide) ?_
      refine x_goto (tgt := 86) dX7_next_82 (by decide) ?_
      refine Ex.sub [0] rfl ?_
      exact t_X7_next_86 hd H
def b_X7_next_30 (k30 : Nat → Int32 → aH → Option (Unit × aH)) (x0 : Nat) (x1 : Int32) (h : aH) : Option (Unit × aH) :=
  ko h x0 7 <|
  if (hI h x0 1) ≤ (hI h x0 3) then
    f_X7_next_66 x0 x1 h
  else
    bd (f_X7_kindAt x0 (hI h x0 3) h) fun v42 h43 =>
    if v42 = 5 then
      ko h43 x0 7 <|
      k30 x0 x1 (sI h43 x0 3 ((hI h43 x0 3) + 1))
    else
      f_X7_next_66 x0 x1 h43
set_option maxRecDepth 100000 in
set_option maxHeartbeats 4000000 in
theorem tb_X7_next_30 {Γ : gS} {d : Nat} (hd : 7 ≤ d) {k30 : Nat → Int32 → aH → Option (Unit × aH)} (hk30 : ∀ {x0 : Nat} {x1 : Int32} {h : aH} {r : Unit} {h' : aH}, k30 x0 x1 h = some (r, h') → Ex Γ gX7_next d 30 [(0, .ref x0), (1, .int x1)] [] h none h') {x0 : Nat} {x1 : Int32} {h : aH} {r : Unit} {h' : aH} (H : b_X7_next_30 k30 x0 x1 h = some (r, h')) : Ex Γ gX7_next d 30 [(0, .ref x0), (1, .int x1)] [] h none h' := by
  unfold b_X7_next_30 at H
  obtain ⟨d, rfl⟩ : ∃ e, d = e + 1 := ⟨d - 1, by omega⟩
  refine x_aload_n dX7_next_30 rfl 0 rfl ?_
  obtain ⟨c40, H⟩ := ko_o H
  refine x_getI fr_X7_22 dX7_next_31 c40 rfl ?_
  refine x_aload_n dX7_next_34 rfl 0 rfl ?_
  refine x_getI fr_X7_15 dX7_next_35 c40 rfl ?_
  refine x_icmp_ge (tgt := 66) dX7_next_38 (by decide) (fun c41 => ?_) (fun c41 => ?_)
  · replace H := ite_p H c41
    exact t_X7_next_66 hd H
  · replace H := ite_m H c41
    refine x_aload_n dX7_next_41 rfl 0 rfl ?_
    refine x_aload_n dX7_next_42 rfl 0 rfl ?_
    refine x_getI fr_X7_22 dX7_next_43 c40 rfl ?_
    obtain ⟨v42, h43, hc44, H⟩ := bd_o H
    refine x_callVi (As := [.int (hI h x0 3)]) (q := (RX7, TX7, 6)) dX7_next_46 mi_X7_kindAt lk_X7_40 im_X7_kindAt se_X7_kindAt rfl c40 rfl rfl (Nat.le_of_ble_eq_true rfl) (t_X7_kindAt (by omega) hc44) ?_
    refine x_iconst (v := 5) dX7_next_49 (by decide) ?_
    refine x_icmp_ne (tgt := 66) dX7_next_50 (by decide) (fun c45 => ?_) (fun c45 => ?_)
    · replace H := ite_m H c45
      exact t_X7_next_66 hd H
    · replace H := ite_p H c45
      refine x_aload_n dX7_next_53 rfl 0 rfl ?_
      refine x_dup dX7_next_54 rfl ?_
      obtain ⟨c46, H⟩ := ko_o H
      refine x_getI fr_X7_22 dX7_next_55 c46 rfl ?_
      refine x_iconst (v := 1) dX7_next_58 (by decide) ?_
      refine x_iadd dX7_next_59 ?_
      refine x_putI fl_X7_22 dX7_next_60 c46 (fun e => by cases e) rfl ?_
      refine x_goto (tgt := 30) dX7_next_63 (by decide) ?_
      exact hk30 H
def f_X7_next_30 : Nat → Nat → Int32 → aH → Option (Unit × aH)
  | 0 => fun _ _ _ => none
  | n + 1 => b_X7_next_30 (f_X7_next_30 n)
set_option maxRecDepth 100000 in
set_option maxHeartbeats 4000000 in
theorem t_X7_next_30 {Γ : gS} {d : Nat} (hd : 7 ≤ d) (n : Nat) : ∀ {x0 : Nat} {x1 : Int32} {h : aH} {r : Unit} {h' : aH}, f_X7_next_30 n x0 x1 h = some (r, h') → Ex Γ gX7_next d 30 [(0, .ref x0), (1, .int x1)] [] h none h' := by
  induction n with
  | zero => intro x0 x1 h r h' H; cases H
  | succ n ih => intro x0 x1 h r h' H; exact tb_X7_next_30 hd ih H
def f_X7_next_21 (x0 : Nat) (s0 : Int32) (h : aH) : Option (Unit × aH) :=
  ko h x0 7 <|
  f_X7_next_30 FU x0 s0 (sI h x0 3 (hI h x0 4))
set_option maxRecDepth 100000 in
set_option maxHeartbeats 4000000 in
theorem t_X7_next_21 {Γ : gS} {d : Nat} (hd : 7 ≤ d) {x0 : Nat} {s0 : Int32} {h : aH} {r : Unit} {h' : aH} (H : f_X7_next_21 x0 s0 h = some (r, h')) : Ex Γ gX7_next d 21 [(0, .ref x0)] [.int s0] h none h' := by
  unfold f_X7_next_21 at H
  obtain ⟨d, rfl⟩ : ∃ e, d = e + 1 := ⟨d - 1, by omega⟩
  refine x_istore_n (lv' := [(1, .int s0), (0, .ref x0)]) dX7_next_21 rfl (by decide) rfl rfl ?_
  refine x_aload_n dX7_next_22 rfl 1 rfl ?_
  refine x_aload_n dX7_next_23 rfl 1 rfl ?_
  obtain ⟨c47, H⟩ := ko_o H
  refine x_getI fr_X7_25 dX7_next_24 c47 rfl ?_
  refine x_putI fl_X7_22 dX7_next_27 c47 (fun e => by cases e) rfl ?_
  refine Ex.sub [1, 0] rfl ?_
  exact t_X7_next_30 hd FU H
def f_X7_next_16 (x0 : Nat) (h : aH) : Option (Unit × aH) :=
  f_X7_next_21 x0 1 h
set_option maxRecDepth 100000 in
set_option maxHeartbeats 4000000 in
theorem t_X7_next_16 {Γ : gS} {d : Nat} (hd : 7 ≤ d) {x0 : Nat} {h : aH} {r : Unit} {h' : aH} (H : f_X7_next_16 x0 h = some (r, h')) : Ex Γ gX7_next d 16 [(0, .ref x0)] [] h none h' := by
  unfold f_X7_next_16 at H
  obtain ⟨d, rfl⟩ : ∃ e, d = e + 1 := ⟨d - 1, by omega⟩
  refine x_iconst (v := 1) dX7_next_16 (by decide) ?_
  refine x_goto (tgt := 21) dX7_next_17 (by decide) ?_
  exact t_X7_next_21 hd H
def f_X7_next (x0 : Nat) (h : aH) : Option (Unit × aH) :=
  ko h x0 7 <|
  if (hI h x0 2) = 1 then
    f_X7_next_16 x0 h
  else
    if (hI h x0 2) = 2 then
      f_X7_next_16 x0 h
    else
      f_X7_next_21 x0 0 h
set_option maxRecDepth 100000 in
set_option maxHeartbeats 4000000 in
theorem t_X7_next {Γ : gS} {d : Nat} (hd : 7 ≤ d) {x0 : Nat} {h : aH} {r : Unit} {h' : aH} (H : f_X7_next x0 h = some (r, h')) : Mx Γ gX7_next d [.ref x0] h none h' := by
  refine Mx.of (by decide +kernel) (Nat.le_of_ble_eq_true rfl) ?_
  unfold f_X7_next at H
  show Ex Γ gX7_next d 0 [(0, .ref x0)] [] h none h'
  obtain ⟨d, rfl⟩ : ∃ e, d = e + 1 := ⟨d - 1, by omega⟩
  refine x_aload_n dX7_next_0 rfl 0 rfl ?_
  obtain ⟨c48, H⟩ := ko_o H
  refine x_getI fr_X7_19 dX7_next_1 c48 rfl ?_
  refine x_iconst (v := 1) dX7_next_4 (by decide) ?_
  refine x_icmp_eq (tgt := 16) dX7_next_5 (by decide) (fun c49 => ?_) (fun c49 => ?_)
  · replace H := ite_p H c49
    exact t_X7_next_16 hd H
  · replace H := ite_m H c49
    refine x_aload_n dX7_next_8 rfl 0 rfl ?_
    refine x_getI fr_X7_19 dX7_next_9 c48 rfl ?_
    refine x_iconst (v := 2) dX7_next_12 (by decide) ?_
    refine x_icmp_ne (tgt := 20) dX7_next_13 (by decide) (fun c50 => ?_) (fun c50 => ?_)
    · replace H := ite_m H c50
      refine x_iconst (v := 0) dX7_next_20 (by decide) ?_
      exact t_X7_next_21 hd H
    · replace H := ite_p H c50
      exact t_X7_next_16 hd H
def f_X7_begin (x0 : Nat) (x1 : Nat) (x2 : Int32) (h : aH) : Option (Unit × aH) :=
  ko h x0 7 <|
  ka h x1 .byte fun n3 =>
  bd (f_J9_min_7cf53 x2 (Int32.ofNat n3) (sR h x0 0 (some x1))) fun v4 h5 =>
  ko h5 x0 7 <|
  bd (f_X7_next x0 (sI (sI (sI h5 x0 1 v4) x0 2 0) x0 4 0)) fun _ h9 =>
  some ((), h9)
set_option maxRecDepth 100000 in
set_option maxHeartbeats 4000000 in
theorem t_X7_begin {Γ : gS} {d : Nat} (hd : 8 ≤ d) {x0 : Nat} {x1 : Nat} {x2 : Int32} {h : aH} {r : Unit} {h' : aH} (H : f_X7_begin x0 x1 x2 h = some (r, h')) : Mx Γ gX7_begin d [.ref x0, .ref x1, .int x2] h none h' := by
  refine Mx.of (by decide +kernel) (Nat.le_of_ble_eq_true rfl) ?_
  unfold f_X7_begin at H
  show Ex Γ gX7_begin d 0 [(0, .ref x0), (1, .ref x1), (2, .int x2)] [] h none h'
  obtain ⟨d, rfl⟩ : ∃ e, d = e + 1 := ⟨d - 1, by omega⟩
  refine x_aload_n dX7_begin_0 rfl 0 rfl ?_
  refine x_aload_n dX7_begin_1 rfl 1 rfl ?_
  obtain ⟨c1, H⟩ := ko_o H
  refine x_putR fl_X7_9 dX7_begin_2 c1 (fun e => by cases e) rfl ?_
  refine x_aload_n dX7_begin_5 rfl 0 rfl ?_
  refine x_iload_n dX7_begin_6 rfl 2 rfl ?_
  refine x_aload_n dX7_begin_7 rfl 1 rfl ?_
  obtain ⟨n3, c2, H⟩ := ka_o H
  refine x_alen dX7_begin_8 c2 (by decide) ?_
  obtain ⟨v4, h5, hc6, H⟩ := bd_o H
  refine x_callSi (As := [.int x2, .int (Int32.ofNat n3)]) dX7_begin_9 mi_J9_min_7cf53 lk_X7_31 sm_J9_min_7cf53 rfl rfl (Nat.le_of_ble_eq_true rfl) (t_J9_min_7cf53 (by omega) hc6) ?_
  obtain ⟨c7, H⟩ := ko_o H
  refine x_putI fl_X7_15 dX7_begin_12 c7 (fun e => by cases e) rfl ?_
  refine x_aload_n dX7_begin_15 rfl 0 rfl ?_
  refine x_iconst (v := 0) dX7_begin_16 (by decide) ?_
  refine x_putI fl_X7_19 dX7_begin_17 c7 (fun e => by cases e) rfl ?_
  refine x_aload_n dX7_begin_20 rfl 0 rfl ?_
  refine x_iconst (v := 0) dX7_begin_21 (by decide) ?_
  refine x_putI fl_X7_25 dX7_begin_22 c7 (fun e => by cases e) rfl ?_
  refine x_aload_n dX7_begin_25 rfl 0 rfl ?_
  obtain ⟨v8, h9, hc10, H⟩ := bd_o H
  refine x_callVv (As := []) (q := (RX7, TX7, 6)) dX7_begin_26 mi_X7_next lk_X7_37 im_X7_next se_X7_next rfl c7 rfl rfl (Nat.le_of_ble_eq_true rfl) (t_X7_next (by omega) hc10) ?_
  obtain ⟨-, rfl⟩ := so_1 H
  exact x_vret dX7_begin_29 rfl
def f_X7_isTooLong_18 (s0 : Int32) (h : aH) : Option (Int32 × aH) :=
  chk (narrow .boolean (.int s0) = .int s0) <|
  some (s0, h)
set_option maxRecDepth 100000 in
set_option maxHeartbeats 4000000 in
theorem t_X7_isTooLong_18 {Γ : gS} {d : Nat} (hd : 0 ≤ d) {s0 : Int32} {h : aH} {r : Int32} {h' : aH} (H : f_X7_isTooLong_18 s0 h = some (r, h')) : Ex Γ gX7_isTooLong d 18 [] [.int s0] h (some (.int r)) h' := by
  unfold f_X7_isTooLong_18 at H
  obtain ⟨c1, H⟩ := chk_o H
  obtain ⟨rfl, rfl⟩ := so_1 H
  exact x_iret dX7_isTooLong_18 rfl c1
def f_X7_isTooLong (x0 : Nat) (h : aH) : Option (Int32 × aH) :=
  ko h x0 7 <|
  if ((hI h x0 4) - (hI h x0 3)) ≤ 4 then
    f_X7_isTooLong_18 0 h
  else
    f_X7_isTooLong_18 1 h
set_option maxRecDepth 100000 in
set_option maxHeartbeats 4000000 in
theorem t_X7_isTooLong {Γ : gS} {d : Nat} (hd : 0 ≤ d) {x0 : Nat} {h : aH} {r : Int32} {h' : aH} (H : f_X7_isTooLong x0 h = some (r, h')) : Mx Γ gX7_isTooLong d [.ref x0] h (some (.int r)) h' := by
  refine Mx.of (by decide +kernel) (Nat.le_of_ble_eq_true rfl) ?_
  unfold f_X7_isTooLong at H
  show Ex Γ gX7_isTooLong d 0 [(0, .ref x0)] [] h (some (.int r)) h'
  refine x_aload_n dX7_isTooLong_0 rfl 0 rfl ?_
  obtain ⟨c2, H⟩ := ko_o H
  refine x_getI fr_X7_25 dX7_isTooLong_1 c2 rfl ?_
  refine x_aload_n dX7_isTooLong_4 rfl 0 rfl ?_
  refine x_getI fr_X7_22 dX7_isTooLong_5 c2 rfl ?_
  refine x_isub dX7_isTooLong_8 ?_
  refine x_iconst (v := 4) dX7_isTooLong_9 (by decide) ?_
  refine x_icmp_le (tgt := 17) dX7_isTooLong_10 (by decide) (fun c3 => ?_) (fun c3 => ?_)
  · replace H := ite_p H c3
    refine x_iconst (v := 0) dX7_isTooLong_17 (by decide) ?_
    refine Ex.sub [] rfl ?_
    exact t_X7_isTooLong_18 hd H
  · replace H := ite_m H c3
    refine x_iconst (v := 1) dX7_isTooLong_13 (by decide) ?_
    refine x_goto (tgt := 18) dX7_isTooLong_14 (by decide) ?_
    refine Ex.sub [] rfl ?_
    exact t_X7_isTooLong_18 hd H
def f_X7_isWord_21 (s0 : Int32) (h : aH) : Option (Int32 × aH) :=
  chk (narrow .boolean (.int s0) = .int s0) <|
  some (s0, h)
set_option maxRecDepth 100000 in
set_option maxHeartbeats 4000000 in
theorem t_X7_isWord_21 {Γ : gS} {d : Nat} (hd : 0 ≤ d) {s0 : Int32} {h : aH} {r : Int32} {h' : aH} (H : f_X7_isWord_21 s0 h = some (r, h')) : Ex Γ gX7_isWord d 21 [] [.int s0] h (some (.int r)) h' := by
  unfold f_X7_isWord_21 at H
  obtain ⟨c1, H⟩ := chk_o H
  obtain ⟨rfl, rfl⟩ := so_1 H
  exact x_iret dX7_isWord_21 rfl c1
def f_X7_isWord_20 (h : aH) : Option (Int32 × aH) :=
  f_X7_isWord_21 0 h
set_option maxRecDepth 100000 in
set_option maxHeartbeats 4000000 in
theorem t_X7_isWord_20 {Γ : gS} {d : Nat} (hd : 0 ≤ d) {h : aH} {r : Int32} {h' : aH} (H : f_X7_isWord_20 h = some (r, h')) : Ex Γ gX7_isWord d 20 [] [] h (some (.int r)) h' := by
  unfold f_X7_isWord_20 at H
  refine x_iconst (v := 0) dX7_isWord_20 (by decide) ?_
  exact t_X7_isWord_21 hd H
def f_X7_isWord (x0 : Nat) (x1 : Int32) (h : aH) : Option (Int32 × aH) :=
  ko h x0 7 <|
  if (hI h x0 2) = 1 then
    if (hI h x0 5) = x1 then
      f_X7_isWord_21 1 h
    else
      f_X7_isWord_20 h
  else
    f_X7_isWord_20 h
set_option maxRecDepth 100000 in
set_option maxHeartbeats 4000000 in
theorem t_X7_isWord {Γ : gS} {d : Nat} (hd : 0 ≤ d) {x0 : Nat} {x1 : Int32} {h : aH} {r : Int32} {h' : aH} (H : f_X7_isWord x0 x1 h = some (r, h')) : Mx Γ gX7_isWord d [.ref x0, .int x1] h (some (.int r)) h' := by
  refine Mx.of (by decide +kernel) (Nat.le_of_ble_eq_true rfl) ?_
  unfold f_X7_isWord at H
  show Ex Γ gX7_isWord d 0 [(0, .ref x0), (1, .int x1)] [] h (some (.int r)) h'
  refine x_aload_n dX7_isWord_0 rfl 0 rfl ?_
  obtain ⟨c2, H⟩ := ko_o H
  refine x_getI fr_X7_19 dX7_isWord_1 c2 rfl ?_
  refine x_iconst (v := 1) dX7_isWord_4 (by decide) ?_
  refine x_icmp_ne (tgt := 20) dX7_isWord_5 (by decide) (fun c3 => ?_) (fun c3 => ?_)
  · replace H := ite_m H c3
    refine Ex.sub [] rfl ?_
    exact t_X7_isWord_20 hd H
  · replace H := ite_p H c3
    refine x_aload_n dX7_isWord_8 rfl 0 rfl ?_
    refine x_getI fr_X7_28 dX7_isWord_9 c2 rfl ?_
    refine x_iload_n dX7_isWord_12 rfl 1 rfl ?_
    refine x_icmp_ne (tgt := 20) dX7_isWord_13 (by decide) (fun c4 => ?_) (fun c4 => ?_)
    · replace H := ite_m H c4
      refine Ex.sub [] rfl ?_
      exact t_X7_isWord_20 hd H
    · replace H := ite_p H c4
      refine x_iconst (v := 1) dX7_isWord_16 (by decide) ?_
      refine x_goto (tgt := 21) dX7_isWord_17 (by decide) ?_
      refine Ex.sub [] rfl ?_
      exact t_X7_isWord_21 hd H
def f_X7_isSign_21 (s0 : Int32) (h : aH) : Option (Int32 × aH) :=
  chk (narrow .boolean (.int s0) = .int s0) <|
  some (s0, h)
set_option maxRecDepth 100000 in
set_option maxHeartbeats 4000000 in
theorem t_X7_isSign_21 {Γ : gS} {d : Nat} (hd : 0 ≤ d) {s0 : Int32} {h : aH} {r : Int32} {h' : aH} (H : f_X7_isSign_21 s0 h = some (r, h')) : Ex Γ gX7_isSign d 21 [] [.int s0] h (some (.int r)) h' := by
  unfold f_X7_isSign_21 at H
  obtain ⟨c1, H⟩ := chk_o H
  obtain ⟨rfl, rfl⟩ := so_1 H
  exact x_iret dX7_isSign_21 rfl c1
def f_X7_isSign_20 (h : aH) : Option (Int32 × aH) :=
  f_X7_isSign_21 0 h
set_option maxRecDepth 100000 in
set_option maxHeartbeats 4000000 in
theorem t_X7_isSign_20 {Γ : gS} {d : Nat} (hd : 0 ≤ d) {h : aH} {r : Int32} {h' : aH} (H : f_X7_isSign_20 h = some (r, h')) : Ex Γ gX7_isSign d 20 [] [] h (some (.int r)) h' := by
  unfold f_X7_isSign_20 at H
  refine x_iconst (v := 0) dX7_isSign_20 (by decide) ?_
  exact t_X7_isSign_21 hd H
def f_X7_isSign (x0 : Nat) (x1 : Int32) (h : aH) : Option (Int32 × aH) :=
  ko h x0 7 <|
  if (hI h x0 2) = 3 then
    if (hI h x0 5) = x1 then
      f_X7_isSign_21 1 h
    else
      f_X7_isSign_20 h
  else
    f_X7_isSign_20 h
set_option maxRecDepth 100000 in
set_option maxHeartbeats 4000000 in
theorem t_X7_isSign {Γ : gS} {d : Nat} (hd : 0 ≤ d) {x0 : Nat} {x1 : Int32} {h : aH} {r : Int32} {h' : aH} (H : f_X7_isSign x0 x1 h = some (r, h')) : Mx Γ gX7_isSign d [.ref x0, .int x1] h (some (.int r)) h' := by
  refine Mx.of (by decide +kernel) (Nat.le_of_ble_eq_true rfl) ?_
  unfold f_X7_isSign at H
  show Ex Γ gX7_isSign d 0 [(0, .ref x0), (1, .int x1)] [] h (some (.int r)) h'
  refine x_aload_n dX7_isSign_0 rfl 0 rfl ?_
  obtain ⟨c2, H⟩ := ko_o H
  refine x_getI fr_X7_19 dX7_isSign_1 c2 rfl ?_
  refine x_iconst (v := 3) dX7_isSign_4 (by decide) ?_
  refine x_icmp_ne (tgt := 20) dX7_isSign_5 (by decide) (fun c3 => ?_) (fun c3 => ?_)
  · replace H := ite_m H c3
    refine Ex.sub [] rfl ?_
    exact t_X7_isSign_20 hd H
  · replace H := ite_p H c3
    refine x_aload_n dX7_isSign_8 rfl 0 rfl ?_
    refine x_getI fr_X7_28 dX7_isSign_9 c2 rfl ?_
    refine x_iload_n dX7_isSign_12 rfl 1 rfl ?_
    refine x_icmp_ne (tgt := 20) dX7_isSign_13 (by decide) (fun c4 => ?_) (fun c4 => ?_)
    · replace H := ite_m H c4
      refine Ex.sub [] rfl ?_
      exact t_X7_isSign_20 hd H
    · replace H := ite_p H c4
      refine x_iconst (v := 1) dX7_isSign_16 (by decide) ?_
      refine x_goto (tgt := 21) dX7_isSign_17 (by decide) ?_
      refine Ex.sub [] rfl ?_
      exact t_X7_isSign_21 hd H
