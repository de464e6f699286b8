def f_X0_init (x0 : Nat) (x1 : Nat) (h : aH) : Option (Unit × aH) :=
  nm (hN h) fun (a2 : Nat) =>
  nm (nw h (.inr (.int, 17)) 17) fun (h1 : aH) =>
  ko h1 x0 0 <|
  nm (hN (sR h1 x0 1 (some a2))) fun (a5 : Nat) =>
  nm (nw (sR h1 x0 1 (some a2)) (.inr (.int, 64)) 64) fun (h4 : aH) =>
  ko h4 x0 0 <|
  some ((), sR (sI (sR (sI (sR h4 x0 2 (some a5)) x0 3 0) x0 4 none) x0 5 4) x0 0 (some x1))
set_option maxRecDepth 100000 in
set_option maxHeartbeats 4000000 in
theorem t_X0_init {Γ : gS} {d : Nat} (hd : 1 ≤ d) {x0 : Nat} {x1 : Nat} {h : aH} {r : Unit} {h' : aH} (H : f_X0_init x0 x1 h = some (r, h')) : Mx Γ gX0_init d [.ref x0, .ref x1] h none h' := by
  refine Mx.of (by decide +kernel) (Nat.le_of_ble_eq_true rfl) ?_
  unfold f_X0_init at H
  show Ex Γ gX0_init d 0 [(0, .ref x0), (1, .ref x1)] [] h none h'
  obtain ⟨d, rfl⟩ : ∃ e, d = e + 1 := ⟨d - 1, by omega⟩
  refine x_aload_n dX0_init_0 rfl 0 rfl ?_
  refine x_oinit dX0_init_1 lk_X0_3 im_obj co_obj (Nat.le_of_ble_eq_true rfl) ?_
  refine x_aload_n dX0_init_4 rfl 0 rfl ?_
  refine x_bipush (v := 17) dX0_init_5 (by decide) ?_
  obtain ⟨a2, ea2, H⟩ := nm_o H
  obtain ⟨h1, eh1, H⟩ := nm_o H
  refine x_newa (t := .int) (N := 17) dX0_init_7 rfl (by decide) rfl ac_int (by decide) (by decide) (by decide) ?_
  rw [ea2]
  refine Ex.ren eh1 ?_
  obtain ⟨c3, H⟩ := ko_o H
  refine x_putR fl_X0_11 dX0_init_9 c3 (fun _ => rfl) rfl ?_
  refine x_aload_n dX0_init_12 rfl 0 rfl ?_
  refine x_bipush (v := 64) dX0_init_13 (by decide) ?_
  obtain ⟨a5, ea5, H⟩ := nm_o H
  obtain ⟨h4, eh4, H⟩ := nm_o H
  refine x_newa (t := .int) (N := 64) dX0_init_15 rfl (by decide) rfl ac_int (by decide) (by decide) (by decide) ?_
  rw [ea5]
  refine Ex.ren eh4 ?_
  obtain ⟨c6, H⟩ := ko_o H
  refine x_putR fl_X0_17 dX0_init_17 c6 (fun _ => rfl) rfl ?_
  refine x_aload_n dX0_init_20 rfl 0 rfl ?_
  refine x_iconst (v := 0) dX0_init_21 (by decide) ?_
  refine x_putI fl_X0_20 dX0_init_22 c6 (fun e => by cases e) rfl ?_
  refine x_aload_n dX0_init_25 rfl 0 rfl ?_
  refine x_null dX0_init_26 ?_
  refine x_putN fl_X0_24 dX0_init_27 c6 (fun e => by cases e) rfl ?_
  refine x_aload_n dX0_init_30 rfl 0 rfl ?_
  refine x_iconst (v := 4) dX0_init_31 (by decide) ?_
  refine x_putI fl_X0_30 dX0_init_32 c6 (fun e => by cases e) rfl ?_
  refine x_aload_n dX0_init_35 rfl 0 rfl ?_
  refine x_aload_n dX0_init_36 rfl 1 rfl ?_
  refine x_putR fl_X0_33 dX0_init_37 c6 (fun _ => rfl) rfl ?_
  obtain ⟨-, rfl⟩ := so_1 H
  exact x_vret dX0_init_40 rfl
def f_X11_isStep_19 (s0 : Int32) (h : aH) : Option (Int32 × aH) :=
  chk (narrow .boolean (.int s0) = .int s0) <|
  some (s0, h)
set_option maxRecDepth 100000 in
set_option maxHeartbeats 4000000 in
theorem t_X11_isStep_19 {Γ : gS} {d : Nat} (hd : 0 ≤ d) {s0 : Int32} {h : aH} {r : Int32} {h' : aH} (H : f_X11_isStep_19 s0 h = some (r, h')) : Ex Γ gX11_isStep d 19 [] [.int s0] h (some (.int r)) h' := by
  unfold f_X11_isStep_19 at H
  obtain ⟨c1, H⟩ := chk_o H
  obtain ⟨rfl, rfl⟩ := so_1 H
  exact x_iret dX11_isStep_19 rfl c1
def f_X11_isStep_18 (h : aH) : Option (Int32 × aH) :=
  f_X11_isStep_19 0 h
set_option maxRecDepth 100000 in
set_option maxHeartbeats 4000000 in
theorem t_X11_isStep_18 {Γ : gS} {d : Nat} (hd : 0 ≤ d) {h : aH} {r : Int32} {h' : aH} (H : f_X11_isStep_18 h = some (r, h')) : Ex Γ gX11_isStep d 18 [] [] h (some (.int r)) h' := by
  unfold f_X11_isStep_18 at H
  refine x_iconst (v := 0) dX11_isStep_18 (by decide) ?_
  exact t_X11_isStep_19 hd H
def f_X11_isStep (x0 : Int32) (h : aH) : Option (Int32 × aH) :=
  if x0 < (-4095) then
    f_X11_isStep_18 h
  else
    if 4095 < x0 then
      f_X11_isStep_18 h
    else
      f_X11_isStep_19 1 h
set_option maxRecDepth 100000 in
set_option maxHeartbeats 4000000 in
theorem t_X11_isStep {Γ : gS} {d : Nat} (hd : 0 ≤ d) {x0 : Int32} {h : aH} {r : Int32} {h' : aH} (H : f_X11_isStep x0 h = some (r, h')) : Mx Γ gX11_isStep d [.int x0] h (some (.int r)) h' := by
  refine Mx.of (by decide +kernel) (Nat.le_of_ble_eq_true rfl) ?_
  unfold f_X11_isStep at H
  show Ex Γ gX11_isStep d 0 [(0, .int x0)] [] h (some (.int r)) h'
  refine x_iload_n dX11_isStep_0 rfl 0 rfl ?_
  refine x_sipush (v := (-4095)) dX11_isStep_1 (by decide) ?_
  refine x_icmp_lt (tgt := 18) dX11_isStep_4 (by decide) (fun c2 => ?_) (fun c2 => ?_)
  · replace H := ite_p H c2
    refine Ex.sub [] rfl ?_
    exact t_X11_isStep_18 hd H
  · replace H := ite_m H c2
    refine x_iload_n dX11_isStep_7 rfl 0 rfl ?_
    refine x_sipush (v := 4095) dX11_isStep_8 (by decide) ?_
    refine x_icmp_gt (tgt := 18) dX11_isStep_11 (by decide) (fun c3 => ?_) (fun c3 => ?_)
    · replace H := ite_p H c3
      refine Ex.sub [] rfl ?_
      exact t_X11_isStep_18 hd H
    · replace H := ite_m H c3
      refine x_iconst (v := 1) dX11_isStep_14 (by decide) ?_
      refine x_goto (tgt := 19) dX11_isStep_15 (by decide) ?_
      refine Ex.sub [] rfl ?_
      exact t_X11_isStep_19 hd H
def f_X0_ofOne_43 (s0 : Int32) (h : aH) : Option (Int32 × aH) :=
  some (s0, h)
set_option maxRecDepth 100000 in
set_option maxHeartbeats 4000000 in
theorem t_X0_ofOne_43 {Γ : gS} {d : Nat} (hd : 2 ≤ d) {s0 : Int32} {h : aH} {r : Int32} {h' : aH} (H : f_X0_ofOne_43 s0 h = some (r, h')) : Ex Γ gX0_ofOne d 43 [] [.int s0] h (some (.int r)) h' := by
  unfold f_X0_ofOne_43 at H
  obtain ⟨d, rfl⟩ : ∃ e, d = e + 1 := ⟨d - 1, by omega⟩
  obtain ⟨rfl, rfl⟩ := so_1 H
  exact x_iret dX0_ofOne_43 rfl rfl
def f_X0_ofOne_42 (h : aH) : Option (Int32 × aH) :=
  f_X0_ofOne_43 0 h
set_option maxRecDepth 100000 in
set_option maxHeartbeats 4000000 in
theorem t_X0_ofOne_42 {Γ : gS} {d : Nat} (hd : 2 ≤ d) {h : aH} {r : Int32} {h' : aH} (H : f_X0_ofOne_42 h = some (r, h')) : Ex Γ gX0_ofOne d 42 [] [] h (some (.int r)) h' := by
  unfold f_X0_ofOne_42 at H
  obtain ⟨d, rfl⟩ : ∃ e, d = e + 1 := ⟨d - 1, by omega⟩
  refine x_iconst (v := 0) dX0_ofOne_42 (by decide) ?_
  exact t_X0_ofOne_43 hd H
def f_X0_ofOne_88 (s0 : Int32) (h : aH) : Option (Int32 × aH) :=
  some (s0, h)
set_option maxRecDepth 100000 in
set_option maxHeartbeats 4000000 in
theorem t_X0_ofOne_88 {Γ : gS} {d : Nat} (hd : 2 ≤ d) {s0 : Int32} {h : aH} {r : Int32} {h' : aH} (H : f_X0_ofOne_88 s0 h = some (r, h')) : Ex Γ gX0_ofOne d 88 [] [.int s0] h (some (.int r)) h' := by
  unfold f_X0_ofOne_88 at H
  obtain ⟨d, rfl⟩ : ∃ e, d = e + 1 := ⟨d - 1, by omega⟩
  obtain ⟨rfl, rfl⟩ := so_1 H
  exact x_iret dX0_ofOne_88 rfl rfl
def f_X0_ofOne_78 (s0 : Int32) (h : aH) : Option (Int32 × aH) :=
  if s0 = 0 then
    f_X0_ofOne_88 0 h
  else
    f_X0_ofOne_88 1 h
set_option maxRecDepth 100000 in
set_option maxHeartbeats 4000000 in
theorem t_X0_ofOne_78 {Γ : gS} {d : Nat} (hd : 2 ≤ d) {s0 : Int32} {h : aH} {r : Int32} {h' : aH} (H : f_X0_ofOne_78 s0 h = some (r, h')) : Ex Γ gX0_ofOne d 78 [] [.int s0] h (some (.int r)) h' := by
  unfold f_X0_ofOne_78 at H
  obtain ⟨d, rfl⟩ : ∃ e, d = e + 1 := ⟨d - 1, by omega⟩
  refine x_istore_n (lv' := [(3, .int s0)]) dX0_ofOne_78 rfl (by decide) rfl rfl ?_
  refine x_iload_n dX0_ofOne_79 rfl 0 rfl ?_
  refine x_if_eq (tgt := 87) dX0_ofOne_80 (by decide) (fun c1 => ?_) (fun c1 => ?_)
  · replace H := ite_p H c1
    refine x_iconst (v := 0) dX0_ofOne_87 (by decide) ?_
    refine Ex.sub [] rfl ?_
    exact t_X0_ofOne_88 hd H
  · replace H := ite_m H c1
    refine x_iconst (v := 1) dX0_ofOne_83 (by decide) ?_
    refine x_goto (tgt := 88) dX0_ofOne_84 (by decide) ?_
    refine Ex.sub [] rfl ?_
    exact t_X0_ofOne_88 hd H
def f_X0_ofOne_77 (h : aH) : Option (Int32 × aH) :=
  f_X0_ofOne_78 0 h
set_option maxRecDepth 100000 in
set_option maxHeartbeats 4000000 in
theorem t_X0_ofOne_77 {Γ : gS} {d : Nat} (hd : 2 ≤ d) {h : aH} {r : Int32} {h' : aH} (H : f_X0_ofOne_77 h = some (r, h')) : Ex Γ gX0_ofOne d 77 [] [] h (some (.int r)) h' := by
  unfold f_X0_ofOne_77 at H
  obtain ⟨d, rfl⟩ : ∃ e, d = e + 1 := ⟨d - 1, by omega⟩
  refine x_iconst (v := 0) dX0_ofOne_77 (by decide) ?_
  exact t_X0_ofOne_78 hd H
def f_X0_ofOne (x0 : Nat) (x1 : Int32) (x2 : Int32) (h : aH) : Option (Int32 × aH) :=
  if x1 = 21 then
    some (1 - x2, h)
  else
    if x1 = 17 then
      if x2 < 0 then
        f_X0_ofOne_42 h
      else
        if 16 ≤ x2 then
          f_X0_ofOne_42 h
        else
          ko h x0 0 <|
          kr (hR h x0 0) fun a22 =>
          ka h a22 (.object RX6) fun n25 =>
          chk (inb x2 n25 = true) <|
          kr (hR h a22 x2.toNatClampNeg) fun a27 =>
          ko h a27 6 <|
          bd (f_X6_base a27 (hI h x0 5) h) fun v29 h30 =>
          f_X0_ofOne_43 v29 h30
    else
      ko h x0 0 <|
      kn (hR h x0 4) (
        f_X0_ofOne_77 h
        ) fun a5 =>
      bd (f_X11_isStep x2 h) fun v7 h8 =>
      if v7 = 0 then
        f_X0_ofOne_77 h8
      else
        ko h8 x0 0 <|
        kr (hR h8 x0 4) fun a12 =>
        ko h8 a12 6 <|
        bd (f_X6_keepsBounds a12 x2 (hI h8 x0 5) h8) fun v14 h15 =>
        if v14 = 0 then
          f_X0_ofOne_77 h15
        else
          f_X0_ofOne_78 1 h15
set_option maxRecDepth 100000 in
set_option maxHeartbeats 4000000 in
theorem t_X0_ofOne {Γ : gS} {d : Nat} (hd : 2 ≤ d) {x0 : Nat} {x1 : Int32} {x2 : Int32} {h : aH} {r : Int32} {h' : aH} (H : f_X0_ofOne x0 x1 x2 h = some (r, h')) : Mx Γ gX0_ofOne d [.ref x0, .int x1, .int x2] h (some (.int r)) h' := by
  refine Mx.of (by decide +kernel) (Nat.le_of_ble_eq_true rfl) ?_
  unfold f_X0_ofOne at H
  show Ex Γ gX0_ofOne d 0 [(0, .ref x0), (1, .int x1), (2, .int x2)] [] h (some (.int r)) h'
  obtain ⟨d, rfl⟩ : ∃ e, d = e + 1 := ⟨d - 1, by omega⟩
  refine x_iload_n dX0_ofOne_0 rfl 1 rfl ?_
  refine x_bipush (v := 21) dX0_ofOne_1 (by decide) ?_
  refine x_icmp_ne (tgt := 10) dX0_ofOne_3 (by decide) (fun c2 => ?_) (fun c2 => ?_)
  · replace H := ite_m H c2
    refine x_iload_n dX0_ofOne_10 rfl 1 rfl ?_
    refine x_bipush (v := 17) dX0_ofOne_11 (by decide) ?_
    refine x_icmp_ne (tgt := 44) dX0_ofOne_13 (by decide) (fun c3 => ?_) (fun c3 => ?_)
    · replace H := ite_m H c3
      refine x_aload_n dX0_ofOne_44 rfl 0 rfl ?_
      obtain ⟨c4, H⟩ := ko_o H
      rcases kn_o H with ⟨c6, H⟩ | ⟨a5, c6, H⟩
      · refine x_getN fr_X0_24 dX0_ofOne_45 c4 rfl c6 ?_
        refine x_ifnullN (tgt := 77) dX0_ofOne_48 (by decide) ?_
        refine Ex.sub [] rfl ?_
        exact t_X0_ofOne_77 hd H
      · refine x_getR fr_X0_24 dX0_ofOne_45 c4 rfl c6 ?_
        refine x_ifnull dX0_ofOne_48 ?_
        refine x_iload_n dX0_ofOne_51 rfl 2 rfl ?_
        obtain ⟨v7, h8, hc9, H⟩ := bd_o H
        refine x_callSNi (As := [.int x2]) (host := "FatPointers") dX0_ofOne_52 mi_X11_isStep (by decide) sm_X11_isStep rfl rfl (Nat.le_of_ble_eq_true rfl) (t_X11_isStep (by omega) hc9) ?_
        refine x_if_eq (tgt := 77) dX0_ofOne_55 (by decide) (fun c10 => ?_) (fun c10 => ?_)
        · replace H := ite_p H c10
          refine Ex.sub [] rfl ?_
          exact t_X0_ofOne_77 hd H
        · replace H := ite_m H c10
          refine x_aload_n dX0_ofOne_58 rfl 0 rfl ?_
          obtain ⟨c11, H⟩ := ko_o H
          obtain ⟨a12, c13, H⟩ := kr_o H
          refine x_getR fr_X0_24 dX0_ofOne_59 c11 rfl c13 ?_
          refine x_iload_n dX0_ofOne_62 rfl 2 rfl ?_
          refine x_aload_n dX0_ofOne_63 rfl 0 rfl ?_
          refine x_getI fr_X0_30 dX0_ofOne_64 c11 rfl ?_
          obtain ⟨c18, H⟩ := ko_o H
          obtain ⟨v14, h15, hc16, H⟩ := bd_o H
          refine x_callVi (As := [.int x2, .int (hI h8 x0 5)]) (q := (RX6, TX6, 8)) dX0_ofOne_67 mi_X6_keepsBounds lk_X0_111 im_X6_keepsBounds se_X6_keepsBounds rfl c18 rfl rfl (Nat.le_of_ble_eq_true rfl) (t_X6_keepsBounds (by omega) hc16) ?_
          refine x_if_eq (tgt := 77) dX0_ofOne_70 (by decide) (fun c17 => ?_) (fun c17 => ?_)
          · replace H := ite_p H c17
            refine Ex.sub [] rfl ?_
            exact t_X0_ofOne_77 hd H
          · replace H := ite_m H c17
            refine x_iconst (v := 1) dX0_ofOne_73 (by decide) ?_
            refine x_goto (tgt := 78) dX0_ofOne_74 (by decide) ?_
            refine Ex.sub [] rfl ?_
            exact t_X0_ofOne_78 hd H
    · replace H := ite_p H c3
      refine x_iload_n dX0_ofOne_16 rfl 2 rfl ?_
      refine x_if_lt (tgt := 42) dX0_ofOne_17 (by decide) (fun c19 => ?_) (fun c19 => ?_)
      · replace H := ite_p H c19
        refine Ex.sub [] rfl ?_
        exact t_X0_ofOne_42 hd H
      · replace H := ite_m H c19
        refine x_iload_n dX0_ofOne_20 rfl 2 rfl ?_
        refine x_bipush (v := 16) dX0_ofOne_21 (by decide) ?_
        refine x_icmp_ge (tgt := 42) dX0_ofOne_23 (by decide) (fun c20 => ?_) (fun c20 => ?_)
        · replace H := ite_p H c20
          refine Ex.sub [] rfl ?_
          exact t_X0_ofOne_42 hd H
        · replace H := ite_m H c20
          refine x_aload_n dX0_ofOne_26 rfl 0 rfl ?_
          obtain ⟨c21, H⟩ := ko_o H
          obtain ⟨a22, c23, H⟩ := kr_o H
          refine x_getR fr_X0_33 dX0_ofOne_27 c21 rfl c23 ?_
          refine x_iload_n dX0_ofOne_30 rfl 2 rfl ?_
          obtain ⟨n25, c24, H⟩ := ka_o H
          obtain ⟨c26, H⟩ := chk_o H
          obtain ⟨a27, c28, H⟩ := kr_o H
          refine x_aald dX0_ofOne_31 c24 (by decide) (inb_in.mp c26) c28 ?_
          refine x_aload_n dX0_ofOne_32 rfl 0 rfl ?_
          refine x_getI fr_X0_30 dX0_ofOne_33 c21 rfl ?_
          obtain ⟨c32, H⟩ := ko_o H
          obtain ⟨v29, h30, hc31, H⟩ := bd_o H
          refine x_callVi (As := [.int (hI h x0 5)]) (q := (RX6, TX6, 8)) dX0_ofOne_36 mi_X6_base lk_X0_74 im_X6_base se_X6_base rfl c32 rfl rfl (Nat.le_of_ble_eq_true rfl) (t_X6_base (by omega) hc31) ?_
          refine x_goto (tgt := 43) dX0_ofOne_39 (by decide) ?_
          refine Ex.sub [] rfl ?_
          exact t_X0_ofOne_43 hd H
  · replace H := ite_p H c2
    refine x_iconst (v := 1) dX0_ofOne_6 (by decide) ?_
    refine x_iload_n dX0_ofOne_7 rfl 2 rfl ?_
    refine x_isub dX0_ofOne_8 ?_
    obtain ⟨rfl, rfl⟩ := so_1 H
    exact x_iret dX0_ofOne_9 rfl rfl
def f_X0_clamp (x0 : Int64) (h : aH) : Option (Int32 × aH) :=
  bd (f_J9_min_f86c9 1000000 x0 h) fun v1 h2 =>
  bd (f_J9_max_f86c9 (-1000000) v1 h2) fun v4 h5 =>
  some (v4.toInt32, h5)
set_option maxRecDepth 100000 in
set_option maxHeartbeats 4000000 in
theorem t_X0_clamp {Γ : gS} {d : Nat} (hd : 1 ≤ d) {x0 : Int64} {h : aH} {r : Int32} {h' : aH} (H : f_X0_clamp x0 h = some (r, h')) : Mx Γ gX0_clamp d [.long x0] h (some (.int r)) h' := by
  refine Mx.of (by decide +kernel) (Nat.le_of_ble_eq_true rfl) ?_
  unfold f_X0_clamp at H
  show Ex Γ gX0_clamp d 0 [(0, .long x0)] [] h (some (.int r)) h'
  obtain ⟨d, rfl⟩ : ∃ e, d = e + 1 := ⟨d - 1, by omega⟩
  refine x_ldc2 kc_X0_122 dX0_clamp_0 ?_
  refine x_ldc2 kc_X0_124 dX0_clamp_3 ?_
  refine x_lload_n dX0_clamp_6 rfl 0 rfl ?_
  obtain ⟨v1, h2, hc3, H⟩ := bd_o H
  refine x_callSl (As := [.long 1000000, .long x0]) dX0_clamp_7 mi_J9_min_f86c9 lk_X0_126 sm_J9_min_f86c9 rfl rfl (Nat.le_of_ble_eq_true rfl) (t_J9_min_f86c9 (by omega) hc3) ?_
  obtain ⟨v4, h5, hc6, H⟩ := bd_o H
  refine x_callSl (As := [.long (-1000000), .long v1]) dX0_clamp_10 mi_J9_max_f86c9 lk_X0_129 sm_J9_max_f86c9 rfl rfl (Nat.le_of_ble_eq_true rfl) (t_J9_max_f86c9 (by omega) hc6) ?_
  refine x_l2i dX0_clamp_13 ?_
  obtain ⟨rfl, rfl⟩ := so_1 H
  exact x_iret dX0_clamp_14 rfl rfl
def f_X0_ofTwo_185 (s0 : Int32) (h : aH) : Option (Int32 × aH) :=
  some (s0, h)
set_option maxRecDepth 100000 in
set_option maxHeartbeats 4000000 in
theorem t_X0_ofTwo_185 {Γ : gS} {d : Nat} (hd : 2 ≤ d) {s0 : Int32} {h : aH} {r : Int32} {h' : aH} (H : f_X0_ofTwo_185 s0 h = some (r, h')) : Ex Γ gX0_ofTwo d 185 [] [.int s0] h (some (.int r)) h' := by
  unfold f_X0_ofTwo_185 at H
  obtain ⟨d, rfl⟩ : ∃ e, d = e + 1 := ⟨d - 1, by omega⟩
  obtain ⟨rfl, rfl⟩ := so_1 H
  exact x_iret dX0_ofTwo_185 rfl rfl
def f_X0_ofTwo_122 (s0 : Int32) (h : aH) : Option (Int32 × aH) :=
  some (s0, h)
set_option maxRecDepth 100000 in
set_option maxHeartbeats 4000000 in
theorem t_X0_ofTwo_122 {Γ : gS} {d : Nat} (hd : 2 ≤ d) {s0 : Int32} {h : aH} {r : Int32} {h' : aH} (H : f_X0_ofTwo_122 s0 h = some (r, h')) : Ex Γ gX0_ofTwo d 122 [] [.int s0] h (some (.int r)) h' := by
  unfold f_X0_ofTwo_122 at H
  obtain ⟨d, rfl⟩ : ∃ e, d = e + 1 := ⟨d - 1, by omega⟩
  obtain ⟨rfl, rfl⟩ := so_1 H
  exact x_iret dX0_ofTwo_122 rfl rfl
def f_X0_ofTwo_144 (s0 : Int32) (h : aH) : Option (Int32 × aH) :=
  some (s0, h)
set_option maxRecDepth 100000 in
set_option maxHeartbeats 4000000 in
theorem t_X0_ofTwo_144 {Γ : gS} {d : Nat} (hd : 2 ≤ d) {s0 : Int32} {h : aH} {r : Int32} {h' : aH} (H : f_X0_ofTwo_144 s0 h = some (r, h')) : Ex Γ gX0_ofTwo d 144 [] [.int s0] h (some (.int r)) h' := by
  unfold f_X0_ofTwo_144 at H
  obtain ⟨d, rfl⟩ : ∃ e, d = e + 1 := ⟨d - 1, by omega⟩
  obtain ⟨rfl, rfl⟩ := so_1 H
  exact x_iret dX0_ofTwo_144 rfl rfl
def f_X0_ofTwo_133 (s0 : Int32) (h : aH) : Option (Int32 × aH) :=
  some (s0, h)
set_option maxRecDepth 100000 in
set_option maxHeartbeats 4000000 in
theorem t_X0_ofTwo_133 {Γ : gS} {d : Nat} (hd : 2 ≤ d) {s0 : Int32} {h : aH} {r : Int32} {h' : aH} (H : f_X0_ofTwo_133 s0 h = some (r, h')) : Ex Γ gX0_ofTwo d 133 [] [.int s0] h (some (.int r)) h' := by
  unfold f_X0_ofTwo_133 at H
  obtain ⟨d, rfl⟩ : ∃ e, d = e + 1 := ⟨d - 1, by omega⟩
  obtain ⟨rfl, rfl⟩ := so_1 H
  exact x_iret dX0_ofTwo_133 rfl rfl
def f_X0_ofTwo (x0 : Int32) (x1 : Int32) (x2 : Int32) (h : aH) : Option (Int32 × aH) :=
  if x0 = 19 then
    some (x1 ||| x2, h)
  else
  if x0 = 20 then
    some (x1 &&& x2, h)
  else
  if x0 = 23 then
    bd (f_J9_min_7cf53 x1 x2 h) fun v4 h5 =>
    some (v4, h5)
  else
  if x0 = 24 then
    bd (f_J9_max_7cf53 x1 x2 h) fun v8 h9 =>
    some (v8, h9)
  else
  if x0 = 42 then
    bd (f_X0_clamp (x1.toInt64 * x2.toInt64) h) fun v12 h13 =>
    some (v12, h13)
  else
  if x0 = 43 then
    bd (f_X0_clamp (x1.toInt64 + x2.toInt64) h) fun v16 h17 =>
    some (v16, h17)
  else
  if x0 = 45 then
    bd (f_X0_clamp (x1.toInt64 - x2.toInt64) h) fun v20 h21 =>
    some (v20, h21)
  else
  if x0 = 60 then
    if x2 ≤ x1 then
      f_X0_ofTwo_122 0 h
    else
      f_X0_ofTwo_122 1 h
  else
  if x0 = 61 then
    if x1 = x2 then
      f_X0_ofTwo_144 1 h
    else
      f_X0_ofTwo_144 0 h
  else
  if x0 = 62 then
    if x1 ≤ x2 then
      f_X0_ofTwo_133 0 h
    else
      f_X0_ofTwo_133 1 h
  else
  if x2 = 0 then
    f_X0_ofTwo_185 0 h
  else
    bd (f_J9_floorDiv_7cf53 x1 x2 h) fun v30 h31 =>
    f_X0_ofTwo_185 v30 h31
set_option maxRecDepth 100000 in
set_option maxHeartbeats 4000000 in
theorem t_X0_ofTwo {Γ : gS} {d : Nat} (hd : 2 ≤ d) {x0 : Int32} {x1 : Int32} {x2 : Int32} {h : aH} {r : Int32} {h' : aH} (H : f_X0_ofTwo x0 x1 x2 h = some (r, h')) : Mx Γ gX0_ofTwo d [.int x0, .int x1, .int x2] h (some (.int r)) h' := by
  refine Mx.of (by decide +kernel) (Nat.le_of_ble_eq_true rfl) ?_
  unfold f_X0_ofTwo at H
  show Ex Γ gX0_ofTwo d 0 [(0, .int x0), (1, .int x1), (2, .int x2)] [] h (some (.int r)) h'
  obtain ⟨d, rfl⟩ : ∃ e, d = e + 1 := ⟨d - 1, by omega⟩
  refine x_iload_n dX0_ofTwo_0 rfl 0 rfl ?_
  by_cases c1 : x0 = 19
  · replace H := ite_p H c1
    refine x_lookup (tgt := 92) (off := 91) dX0_ofTwo_1 (by decide) (by rw [c1]; rfl) (by decide) ?_
    refine x_iload_n dX0_ofTwo_92 rfl 1 rfl ?_
    refine x_iload_n dX0_ofTwo_93 rfl 2 rfl ?_
    refine x_ior dX0_ofTwo_94 ?_
    obtain ⟨rfl, rfl⟩ := so_1 H
    exact x_iret dX0_ofTwo_95 rfl rfl
  replace H := ite_m H c1
  by_cases c2 : x0 = 20
  · replace H := ite_p H c2
    refine x_lookup (tgt := 96) (off := 95) dX0_ofTwo_1 (by decide) (by rw [c2]; rfl) (by decide) ?_
    refine x_iload_n dX0_ofTwo_96 rfl 1 rfl ?_
    refine x_iload_n dX0_ofTwo_97 rfl 2 rfl ?_
    refine x_iand dX0_ofTwo_98 ?_
    obtain ⟨rfl, rfl⟩ := so_1 H
    exact x_iret dX0_ofTwo_99 rfl rfl
  replace H := ite_m H c2
  by_cases c3 : x0 = 23
  · replace H := ite_p H c3
    refine x_lookup (tgt := 100) (off := 99) dX0_ofTwo_1 (by decide) (by rw [c3]; rfl) (by decide) ?_
    refine x_iload_n dX0_ofTwo_100 rfl 1 rfl ?_
    refine x_iload_n dX0_ofTwo_101 rfl 2 rfl ?_
    obtain ⟨v4, h5, hc6, H⟩ := bd_o H
    refine x_callSi (As := [.int x1, .int x2]) dX0_ofTwo_102 mi_J9_min_7cf53 lk_X0_45 sm_J9_min_7cf53 rfl rfl (Nat.le_of_ble_eq_true rfl) (t_J9_min_7cf53 (by omega) hc6) ?_
    obtain ⟨rfl, rfl⟩ := so_1 H
    exact x_iret dX0_ofTwo_105 rfl rfl
  replace H := ite_m H c3
  by_cases c7 : x0 = 24
  · replace H := ite_p H c7
    refine x_lookup (tgt := 106) (off := 105) dX0_ofTwo_1 (by decide) (by rw [c7]; rfl) (by decide) ?_
    refine x_iload_n dX0_ofTwo_106 rfl 1 rfl ?_
    refine x_iload_n dX0_ofTwo_107 rfl 2 rfl ?_
    obtain ⟨v8, h9, hc10, H⟩ := bd_o H
    refine x_callSi (As := [.int x1, .int x2]) dX0_ofTwo_108 mi_J9_max_7cf53 lk_X0_51 sm_J9_max_7cf53 rfl rfl (Nat.le_of_ble_eq_true rfl) (t_J9_max_7cf53 (by omega) hc10) ?_
    obtain ⟨rfl, rfl⟩ := so_1 H
    exact x_iret dX0_ofTwo_111 rfl rfl
  replace H := ite_m H c7
  by_cases c11 : x0 = 42
  · replace H := ite_p H c11
    refine x_lookup (tgt := 163) (off := 162) dX0_ofTwo_1 (by decide) (by rw [c11]; rfl) (by decide) ?_
    refine x_iload_n dX0_ofTwo_163 rfl 1 rfl ?_
    refine x_i2l dX0_ofTwo_164 ?_
    refine x_iload_n dX0_ofTwo_165 rfl 2 rfl ?_
    refine x_i2l dX0_ofTwo_166 ?_
    refine x_lmul dX0_ofTwo_167 ?_
    obtain ⟨v12, h13, hc14, H⟩ := bd_o H
    refine x_callSi (As := [.long (x1.toInt64 * x2.toInt64)]) dX0_ofTwo_168 mi_X0_clamp lk_X0_115 sm_X0_clamp rfl rfl (Nat.le_of_ble_eq_true rfl) (t_X0_clamp (by omega) hc14) ?_
    obtain ⟨rfl, rfl⟩ := so_1 H
    exact x_iret dX0_ofTwo_171 rfl rfl
  replace H := ite_m H c11
  by_cases c15 : x0 = 43
  · replace H := ite_p H c15
    refine x_lookup (tgt := 145) (off := 144) dX0_ofTwo_1 (by decide) (by rw [c15]; rfl) (by decide) ?_
    refine x_iload_n dX0_ofTwo_145 rfl 1 rfl ?_
    refine x_i2l dX0_ofTwo_146 ?_
    refine x_iload_n dX0_ofTwo_147 rfl 2 rfl ?_
    refine x_i2l dX0_ofTwo_148 ?_
    refine x_ladd dX0_ofTwo_149 ?_
    obtain ⟨v16, h17, hc18, H⟩ := bd_o H
    refine x_callSi (As := [.long (x1.toInt64 + x2.toInt64)]) dX0_ofTwo_150 mi_X0_clamp lk_X0_115 sm_X0_clamp rfl rfl (Nat.le_of_ble_eq_true rfl) (t_X0_clamp (by omega) hc18) ?_
    obtain ⟨rfl, rfl⟩ := so_1 H
    exact x_iret dX0_ofTwo_153 rfl rfl
  replace H := ite_m H c15
  by_cases c19 : x0 = 45
  · replace H := ite_p H c19
    refine x_lookup (tgt := 154) (off := 153) dX0_ofTwo_1 (by decide) (by rw [c19]; rfl) (by decide) ?_
    refine x_iload_n dX0_ofTwo_154 rfl 1 rfl ?_
    refine x_i2l dX0_ofTwo_155 ?_
    refine x_iload_n dX0_ofTwo_156 rfl 2 rfl ?_
    refine x_i2l dX0_ofTwo_157 ?_
    refine x_lsub dX0_ofTwo_158 ?_
    obtain ⟨v20, h21, hc22, H⟩ := bd_o H
    refine x_callSi (As := [.long (x1.toInt64 - x2.toInt64)]) dX0_ofTwo_159 mi_X0_clamp lk_X0_115 sm_X0_clamp rfl rfl (Nat.le_of_ble_eq_true rfl) (t_X0_clamp (by omega) hc22) ?_
    obtain ⟨rfl, rfl⟩ := so_1 H
    exact x_iret dX0_ofTwo_162 rfl rfl
  replace H := ite_m H c19
  by_cases c23 : x0 = 60
  · replace H := ite_p H c23
    refine x_lookup (tgt := 112) (off := 111) dX0_ofTwo_1 (by decide) (by rw [c23]; rfl) (by decide) ?_
    refine x_iload_n dX0_ofTwo_112 rfl 1 rfl ?_
    refine x_iload_n dX0_ofTwo_113 rfl 2 rfl ?_
    refine x_icmp_ge (tgt := 121) dX0_ofTwo_114 (by decide) (fun c24 => ?_) (fun c24 => ?_)
    · replace H := ite_p H c24
      refine x_iconst (v := 0) dX0_ofTwo_121 (by decide) ?_
      refine Ex.sub [] rfl ?_
      exact t_X0_ofTwo_122 hd H
    · replace H := ite_m H c24
      refine x_iconst (v := 1) dX0_ofTwo_117 (by decide) ?_
      refine x_goto (tgt := 122) dX0_ofTwo_118 (by decide) ?_
      refine Ex.sub [] rfl ?_
      exact t_X0_ofTwo_122 hd H
  replace H := ite_m H c23
  by_cases c25 : x0 = 61
  · replace H := ite_p H c25
    refine x_lookup (tgt := 134) (off := 133) dX0_ofTwo_1 (by decide) (by rw [c25]; rfl) (by decide) ?_
    refine x_iload_n dX0_ofTwo_134 rfl 1 rfl ?_
    refine x_iload_n dX0_ofTwo_135 rfl 2 rfl ?_
    refine x_icmp_ne (tgt := 143) dX0_ofTwo_136 (by decide) (fun c26 => ?_) (fun c26 => ?_)
    · replace H := ite_m H c26
      refine x_iconst (v := 0) dX0_ofTwo_143 (by decide) ?_
      refine Ex.sub [] rfl ?_
      exact t_X0_ofTwo_144 hd H
    · replace H := ite_p H c26
      refine x_iconst (v := 1) dX0_ofTwo_139 (by decide) ?_
      refine x_goto (tgt := 144) dX0_ofTwo_140 (by decide) ?_
      refine Ex.sub [] rfl ?_
      exact t_X0_ofTwo_144 hd H
  replace H := ite_m H c25
  by_cases c27 : x0 = 62
  · replace H := ite_p H c27
    refine x_lookup (tgt := 123) (off := 122) dX0_ofTwo_1 (by decide) (by rw [c27]; rfl) (by decide) ?_
    refine x_iload_n dX0_ofTwo_123 rfl 1 rfl ?_
    refine x_iload_n dX0_ofTwo_124 rfl 2 rfl ?_
    refine x_icmp_le (tgt := 132) dX0_ofTwo_125 (by decide) (fun c28 => ?_) (fun c28 => ?_)
    · replace H := ite_p H c28
      refine x_iconst (v := 0) dX0_ofTwo_132 (by decide) ?_
      refine Ex.sub [] rfl ?_
      exact t_X0_ofTwo_133 hd H
    · replace H := ite_m H c28
      refine x_iconst (v := 1) dX0_ofTwo_128 (by decide) ?_
      refine x_goto (tgt := 133) dX0_ofTwo_129 (by decide) ?_
      refine Ex.sub [] rfl ?_
      exact t_X0_ofTwo_133 hd H
  replace H := ite_m H c27
  refine x_lookup (tgt := 172) (off := 171) dX0_ofTwo_1 (by decide) (by show Op.lookupswitch.offset [(19, 91), (20, 95), (23, 99), (24, 105), (42, 162), (43, 144), (45, 153), (60, 111), (61, 133), (62, 122)] _ _ = _; rw [lv_osw c1 (by decide)]; rw [lv_osw c2 (by decide)]; rw [lv_osw c3 (by decide)]; rw [lv_osw c7 (by decide)]; rw [lv_osw c11 (by decide)]; rw [lv_osw c15 (by decide)]; rw [lv_osw c19 (by decide)]; rw [lv_osw c23 (by decide)]; rw [lv_osw c25 (by decide)]; rw [lv_osw c27 (by decide)]; rfl) (by decide) ?_
  refine x_iload_n dX0_ofTwo_172 rfl 2 rfl ?_
  refine x_if_ne (tgt := 180) dX0_ofTwo_173 (by decide) (fun c29 => ?_) (fun c29 => ?_)
  · replace H := ite_m H c29
    refine x_iload_n dX0_ofTwo_180 rfl 1 rfl ?_
    refine x_iload_n dX0_ofTwo_181 rfl 2 rfl ?_
    obtain ⟨v30, h31, hc32, H⟩ := bd_o H
    refine x_callSi (As := [.int x1, .int x2]) dX0_ofTwo_182 mi_J9_floorDiv_7cf53 lk_X0_119 sm_J9_floorDiv_7cf53 rfl rfl (Nat.le_of_ble_eq_true rfl) (t_J9_floorDiv_7cf53 (by omega) hc32) ?_
    refine Ex.sub [] rfl ?_
    exact t_X0_ofTwo_185 hd H
  · replace H := ite_p H c29
    refine x_iconst (v := 0) dX0_ofTwo_176 (by decide) ?_
    refine x_goto (tgt := 185) dX0_ofTwo_177 (by decide) ?_
    refine Ex.sub [] rfl ?_
    exact t_X0_ofTwo_185 hd H
def f_X0_pop (x0 : Nat) (h : aH) : Option (Int32 × aH) :=
  ko h x0 0 <|
  if 0 < (hI h x0 3) then
    kr (hR h x0 2) fun a3 =>
    nm (hI (sI h x0 3 ((hI h x0 3) - 1)) x0 3) fun (v5 : Int32) =>
    ka h a3 .int fun n7 =>
    chk (inb v5 n7 = true) <|
    nm (hI (sI h x0 3 ((hI h x0 3) - 1)) a3 v5.toNatClampNeg) fun (v9 : Int32) =>
    some (v9, sI h x0 3 ((hI h x0 3) - 1))
  else
    some (0, h)
set_option maxRecDepth 100000 in
set_option maxHeartbeats 4000000 in
theorem t_X0_pop {Γ : gS} {d : Nat} (hd : 0 ≤ d) {x0 : Nat} {h : aH} {r : Int32} {h' : aH} (H : f_X0_pop x0 h = some (r, h')) : Mx Γ gX0_pop d [.ref x0] h (some (.int r)) h' := by
  refine Mx.of (by decide +kernel) (Nat.le_of_ble_eq_true rfl) ?_
  unfold f_X0_pop at H
  show Ex Γ gX0_pop d 0 [(0, .ref x0)] [] h (some (.int r)) h'
  refine x_aload_n dX0_pop_0 rfl 0 rfl ?_
  obtain ⟨c1, H⟩ := ko_o H
  refine x_getI fr_X0_20 dX0_pop_1 c1 rfl ?_
  refine x_if_gt (tgt := 9) dX0_pop_4 (by decide) (fun c2 => ?_) (fun c2 => ?_)
  · replace H := ite_p H c2
    refine x_aload_n dX0_pop_9 rfl 0 rfl ?_
    refine x_dup dX0_pop_10 rfl ?_
    refine x_getI fr_X0_20 dX0_pop_11 c1 rfl ?_
    refine x_iconst (v := 1) dX0_pop_14 (by decide) ?_
    refine x_isub dX0_pop_15 ?_
    refine x_putI fl_X0_20 dX0_pop_16 c1 (fun e => by cases e) rfl ?_
    refine x_aload_n dX0_pop_19 rfl 0 rfl ?_
    obtain ⟨a3, c4, H⟩ := kr_o H
    refine x_getR fr_X0_17 dX0_pop_20 c1 rfl c4 ?_
    refine x_aload_n dX0_pop_23 rfl 0 rfl ?_
    obtain ⟨v5, ev5, H⟩ := nm_o H
    refine x_getIe fr_X0_20 dX0_pop_24 c1 rfl ev5 ?_
    obtain ⟨n7, c6, H⟩ := ka_o H
    obtain ⟨c8, H⟩ := chk_o H
    obtain ⟨v9, ev9, H⟩ := nm_o H
    refine x_ialde dX0_pop_27 c6 (inb_in.mp c8) ev9 ?_
    obtain ⟨rfl, rfl⟩ := so_1 H
    exact x_iret dX0_pop_28 rfl rfl
  · replace H := ite_m H c2
    refine x_iconst (v := 0) dX0_pop_7 (by decide) ?_
    obtain ⟨rfl, rfl⟩ := so_1 H
    exact x_iret dX0_pop_8 rfl rfl
def f_X0_push_32 (h : aH) : Option (Unit × aH) :=
  some ((), h)
set_option maxRecDepth 100000 in
set_option maxHeartbeats 4000000 in
theorem t_X0_push_32 {Γ : gS} {d : Nat} (hd : 0 ≤ d) {h : aH} {r : Unit} {h' : aH} (H : f_X0_push_32 h = some (r, h')) : Ex Γ gX0_push d 32 [] [] h none h' := by
  unfold f_X0_push_32 at H
  obtain ⟨-, rfl⟩ := so_1 H
  exact x_vret dX0_push_32 rfl
def f_X0_push (x0 : Nat) (x1 : Int32) (h : aH) : Option (Unit × aH) :=
  ko h x0 0 <|
  kr (hR h x0 2) fun a2 =>
  ka h a2 .int fun n5 =>
  if (Int32.ofNat n5) ≤ (hI h x0 3) then
    f_X0_push_32 h
  else
    chk (inb (hI h x0 3) n5 = true) <|
    nm (hI (sI h a2 (hI h x0 3 : Int32).toNatClampNeg x1) x0 3) fun (v8 : Int32) =>
    f_X0_push_32 (sI (sI h a2 (hI h x0 3 : Int32).toNatClampNeg x1) x0 3 (v8 + 1))
set_option maxRecDepth 100000 in
set_option maxHeartbeats 4000000 in
theorem t_X0_push {Γ : gS} {d : Nat} (hd : 0 ≤ d) {x0 : Nat} {x1 : Int32} {h : aH} {r : Unit} {h' : aH} (H : f_X0_push x0 x1 h = some (r, h')) : Mx Γ gX0_push d [.ref x0, .int x1] h none h' := by
  refine Mx.of (by decide +kernel) (Nat.le_of_ble_eq_true rfl) ?_
  unfold f_X0_push at H
  show Ex Γ gX0_push d 0 [(0, .ref x0), (1, .int x1)] [] h none h'
  refine x_aload_n dX0_push_0 rfl 0 rfl ?_
  obtain ⟨c1, H⟩ := ko_o H
  refine x_getI fr_X0_20 dX0_push_1 c1 rfl ?_
  refine x_aload_n dX0_push_4 rfl 0 rfl ?_
  obtain ⟨a2, c3, H⟩ := kr_o H
  refine x_getR fr_X0_17 dX0_push_5 c1 rfl c3 ?_
  obtain ⟨n5, c4, H⟩ := ka_o H
  refine x_alen dX0_push_8 c4 (by decide) ?_
  refine x_icmp_ge (tgt := 32) dX0_push_9 (by decide) (fun c6 => ?_) (fun c6 => ?_)
  · replace H := ite_p H c6
    refine Ex.sub [] rfl ?_
    exact t_X0_push_32 hd H
  · replace H := ite_m H c6
    refine x_aload_n dX0_push_12 rfl 0 rfl ?_
    refine x_getR fr_X0_17 dX0_push_13 c1 rfl c3 ?_
    refine x_aload_n dX0_push_16 rfl 0 rfl ?_
    refine x_getI fr_X0_20 dX0_push_17 c1 rfl ?_
    refine x_iload_n dX0_push_20 rfl 1 rfl ?_
    obtain ⟨c7, H⟩ := chk_o H
    refine x_iast dX0_push_21 c4 (inb_in.mp c7) ?_
    refine x_aload_n dX0_push_22 rfl 0 rfl ?_
    refine x_dup dX0_push_23 rfl ?_
    obtain ⟨v8, ev8, H⟩ := nm_o H
    refine x_getIe fr_X0_20 dX0_push_24 c1 rfl ev8 ?_
    refine x_iconst (v := 1) dX0_push_27 (by decide) ?_
    refine x_iadd dX0_push_28 ?_
    refine x_putI fl_X0_20 dX0_push_29 c1 (fun e => by cases e) rfl ?_
    refine Ex.sub [] rfl ?_
    exact t_X0_push_32 hd H
def f_X0_work_154 (k28 : Nat → Nat → Int32 → Int32 → aH → Option (Int32 × aH)) (x0 : Nat) (x1 : Nat) (x3 : Int32) (x4 : Int32) (h : aH) : Option (Int32 × aH) :=
  nm (x4 + 1) fun (v1 : Int32) =>
  k28 x0 x1 x3 v1 h
set_option maxRecDepth 100000 in
set_option maxHeartbeats 4000000 in
theorem t_X0_work_154 {Γ : gS} {d : Nat} (hd : 3 ≤ d) {k28 : Nat → Nat → Int32 → Int32 → aH → Option (Int32 × aH)} (hk28 : ∀ {x0 : Nat} {x1 : Nat} {x3 : Int32} {x4 : Int32} {h : aH} {r : Int32} {h' : aH}, k28 x0 x1 x3 x4 h = some (r, h') → Ex Γ gX0_work d 28 [(0, .ref x0), (1, .ref x1), (3, .int x3), (4, .int x4)] [] h (some (.int r)) h') {x0 : Nat} {x1 : Nat} {x3 : Int32} {x4 : Int32} {h : aH} {r : Int32} {h' : aH} (H : f_X0_work_154 k28 x0 x1 x3 x4 h = some (r, h')) : Ex Γ gX0_work d 154 [(0, .ref x0), (1, .ref x1), (3, .int x3), (4, .int x4)] [] h (some (.int r)) h' := by
  unfold f_X0_work_154 at H
  obtain ⟨d, rfl⟩ : ∃ e, d = e + 1 := ⟨d - 1, by omega⟩
  obtain ⟨v1, ev1, H⟩ := nm_o H
  refine x_iinc (v := v1) (lv' := [(4, .int v1), (0, .ref x0), (1, .ref x1), (3, .int x3)]) dX0_work_154 3 rfl (by decide) ev1 rfl ?_
  refine x_goto (tgt := 28) dX0_work_157 (by decide) ?_
  refine Ex.sub [1, 2, 3, 0] rfl ?_
  exact hk28 H
def f_X0_work_116 (k28 : Nat → Nat → Int32 → Int32 → aH → Option (Int32 × aH)) (x0 : Nat) (x1 : Nat) (x3 : Int32) (x4 : Int32) (x6 : Int32) (h : aH) : Option (Int32 × aH) :=
  ko h x0 0 <|
  bd (f_X0_pop x0 h) fun v2 h3 =>
  ko h3 x0 0 <|
  bd (f_X0_ofOne x0 x6 v2 h3) fun v5 h6 =>
  ko h6 x0 0 <|
  bd (f_X0_push x0 v5 h6) fun _ h9 =>
  f_X0_work_154 k28 x0 x1 x3 x4 h9
set_option maxRecDepth 100000 in
set_option maxHeartbeats 4000000 in
theorem t_X0_work_116 {Γ : gS} {d : Nat} (hd : 3 ≤ d) {k28 : Nat → Nat → Int32 → Int32 → aH → Option (Int32 × aH)} (hk28 : ∀ {x0 : Nat} {x1 : Nat} {x3 : Int32} {x4 : Int32} {h : aH} {r : Int32} {h' : aH}, k28 x0 x1 x3 x4 h = some (r, h') → Ex Γ gX0_work d 28 [(0, .ref x0), (1, .ref x1), (3, .int x3), (4, .int x4)] [] h (some (.int r)) h') {x0 : Nat} {x1 : Nat} {x3 : Int32} {x4 : Int32} {x6 : Int32} {h : aH} {r : Int32} {h' : aH} (H : f_X0_work_116 k28 x0 x1 x3 x4 x6 h = some (r, h')) : Ex Γ gX0_work d 116 [(0, .ref x0), (1, .ref x1), (3, .int x3), (4, .int x4), (6, .int x6)] [] h (some (.int r)) h' := by
  unfold f_X0_work_116 at H
  obtain ⟨d, rfl⟩ : ∃ e, d = e + 1 := ⟨d - 1, by omega⟩
  refine x_aload_n dX0_work_116 rfl 0 rfl ?_
  refine x_aload_n dX0_work_117 rfl 0 rfl ?_
  refine x_iload dX0_work_118 4 rfl ?_
  refine x_aload_n dX0_work_120 rfl 0 rfl ?_
  obtain ⟨c13, H⟩ := ko_o H
  obtain ⟨v2, h3, hc4, H⟩ := bd_o H
  refine x_callVi (As := []) (q := (RX0, TX0, 6)) dX0_work_121 mi_X0_pop lk_X0_97 im_X0_pop se_X0_pop rfl c13 rfl rfl (Nat.le_of_ble_eq_true rfl) (t_X0_pop (by omega) hc4) ?_
  obtain ⟨c12, H⟩ := ko_o H
  obtain ⟨v5, h6, hc7, H⟩ := bd_o H
  refine x_callVi (As := [.int x6, .int v2]) (q := (RX0, TX0, 6)) dX0_work_124 mi_X0_ofOne lk_X0_101 im_X0_ofOne se_X0_ofOne rfl c12 rfl rfl (Nat.le_of_ble_eq_true rfl) (t_X0_ofOne (by omega) hc7) ?_
  obtain ⟨c11, H⟩ := ko_o H
  obtain ⟨v8, h9, hc10, H⟩ := bd_o H
  refine x_callVv (As := [.int v5]) (q := (RX0, TX0, 6)) dX0_work_127 mi_X0_push lk_X0_93 im_X0_push se_X0_push rfl c11 rfl rfl (Nat.le_of_ble_eq_true rfl) (t_X0_push (by omega) hc10) ?_
  refine x_goto (tgt := 154) dX0_work_130 (by decide) ?_
  refine Ex.sub [0, 1, 2, 3] rfl ?_
  exact t_X0_work_154 hd hk28 H
def b_X0_work_28 (k28 : Nat → Nat → Int32 → Int32 → aH → Option (Int32 × aH)) (x0 : Nat) (x1 : Nat) (x3 : Int32) (x4 : Int32) (h : aH) : Option (Int32 × aH) :=
  if x3 ≤ x4 then
    ko h x0 0 <|
    bd (f_X0_pop x0 h) fun v15 h16 =>
    some (v15, h16)
  else
    ko h x1 4 <|
    kr (hR h x1 6) fun a20 =>
    ka h a20 .int fun n23 =>
    chk (inb x4 n23 = true) <|
    nm (hI h a20 x4.toNatClampNeg) fun (v25 : Int32) =>
    nm ((-1) - v25) fun (v26 : Int32) =>
    if v25 < 0 then
      ko h x0 0 <|
      kr (hR h x0 1) fun a29 =>
      ka h a29 .int fun n32 =>
      if (Int32.ofNat n32) ≤ v26 then
        if v26 = 22 then
          bd (f_X0_push x0 1 h) fun _ h52 =>
          f_X0_work_154 k28 x0 x1 x3 x4 h52
        else
          if v26 = 21 then
            f_X0_work_116 k28 x0 x1 x3 x4 v26 h
          else
            if 19 ≤ v26 then
              bd (f_X0_pop x0 h) fun v37 h38 =>
              ko h38 x0 0 <|
              bd (f_X0_pop x0 h38) fun v40 h41 =>
              bd (f_X0_ofTwo v26 v40 v37 h41) fun v43 h44 =>
              ko h44 x0 0 <|
              bd (f_X0_push x0 v43 h44) fun _ h47 =>
              f_X0_work_154 k28 x0 x1 x3 x4 h47
            else
              f_X0_work_116 k28 x0 x1 x3 x4 v26 h
      else
        chk (inb v26 n32 = true) <|
        bd (f_X0_push x0 (hI h a29 v26.toNatClampNeg) h) fun _ h56 =>
        f_X0_work_154 k28 x0 x1 x3 x4 h56
    else
      ko h x0 0 <|
      bd (f_X0_push x0 v25 h) fun _ h59 =>
      f_X0_work_154 k28 x0 x1 x3 x4 h59
set_option maxRecDepth 100000 in
set_option maxHeartbeats 4000000 in
theorem tb_X0_work_28 {Γ : gS} {d : Nat} (hd : 3 ≤ d) {k28 : Nat → Nat → Int32 → Int32 → aH → Option (Int32 × aH)} (hk28 : ∀ {x0 : Nat} {x1 : Nat} {x3 : Int32} {x4 : Int32} {h : aH} {r : Int32} {h' : aH}, k28 x0 x1 x3 x4 h = some (r, h') → Ex Γ gX0_work d 28 [(0, .ref x0), (1, .ref x1), (3, .int x3), (4, .int x4)] [] h (some (.int r)) h') {x0 : Nat} {x1 : Nat} {x3 : Int32} {x4 : Int32} {h : aH} {r : Int32} {h' : aH} (H : b_X0_work_28 k28 x0 x1 x3 x4 h = some (r, h')) : Ex Γ gX0_work d 28 [(0, .ref x0), (1, .ref x1), (3, .int x3), (4, .int x4)] [] h (some (.int r)) h' := by
  unfold b_X0_work_28 at H
  obtain ⟨d, rfl⟩ : ∃ e, d = e + 1 := ⟨d - 1, by omega⟩
  refine x_iload dX0_work_28 3 rfl ?_
  refine x_iload_n dX0_work_30 rfl 2 rfl ?_
  refine x_icmp_ge (tgt := 160) dX0_work_31 (by decide) (fun c14 => ?_) (fun c14 => ?_)
  · replace H := ite_p H c14
    refine x_aload_n dX0_work_160 rfl 0 rfl ?_
    obtain ⟨c18, H⟩ := ko_o H
    obtain ⟨v15, h16, hc17, H⟩ := bd_o H
    refine x_callVi (As := []) (q := (RX0, TX0, 6)) dX0_work_161 mi_X0_pop lk_X0_97 im_X0_pop se_X0_pop rfl c18 rfl rfl (Nat.le_of_ble_eq_true rfl) (t_X0_pop (by omega) hc17) ?_
    obtain ⟨rfl, rfl⟩ := so_1 H
    exact x_iret dX0_work_164 rfl rfl
  · replace H := ite_m H c14
    refine x_aload_n dX0_work_34 rfl 1 rfl ?_
    obtain ⟨c19, H⟩ := ko_o H
    obtain ⟨a20, c21, H⟩ := kr_o H
    refine x_getR fr_X0_87 dX0_work_35 c19 rfl c21 ?_
    refine x_iload dX0_work_38 3 rfl ?_
    obtain ⟨n23, c22, H⟩ := ka_o H
    obtain ⟨c24, H⟩ := chk_o H
    refine x_iald dX0_work_40 c22 (inb_in.mp c24) ?_
    obtain ⟨v25, ev25, H⟩ := nm_o H
    refine x_istore (lv' := [(5, .int v25), (0, .ref x0), (1, .ref x1), (3, .int x3), (4, .int x4)]) dX0_work_41 (by decide) ev25 rfl ?_
    refine x_iconst (v := (-1)) dX0_work_43 (by decide) ?_
    refine x_iload dX0_work_44 0 rfl ?_
    refine x_isub dX0_work_46 ?_
    obtain ⟨v26, ev26, H⟩ := nm_o H
    refine x_istore (lv' := [(6, .int v26), (5, .int v25), (0, .ref x0), (1, .ref x1), (3, .int x3), (4, .int x4)]) dX0_work_47 (by decide) ev26 rfl ?_
    refine x_iload dX0_work_49 1 rfl ?_
    refine x_if_lt (tgt := 63) dX0_work_51 (by decide) (fun c27 => ?_) (fun c27 => ?_)
    · replace H := ite_p H c27
      refine x_iload dX0_work_63 0 rfl ?_
      refine x_aload_n dX0_work_65 rfl 2 rfl ?_
      obtain ⟨c28, H⟩ := ko_o H
      obtain ⟨a29, c30, H⟩ := kr_o H
      refine x_getR fr_X0_11 dX0_work_66 c28 rfl c30 ?_
      obtain ⟨n32, c31, H⟩ := ka_o H
      refine x_alen dX0_work_69 c31 (by decide) ?_
      refine x_icmp_ge (tgt := 87) dX0_work_70 (by decide) (fun c33 => ?_) (fun c33 => ?_)
      · replace H := ite_p H c33
        refine x_iload dX0_work_87 0 rfl ?_
        refine x_bipush (v := 22) dX0_work_89 (by decide) ?_
        refine x_icmp_ne (tgt := 102) dX0_work_91 (by decide) (fun c34 => ?_) (fun c34 => ?_)
        · replace H := ite_m H c34
          refine x_iload dX0_work_102 0 rfl ?_
          refine x_bipush (v := 21) dX0_work_104 (by decide) ?_
          refine x_icmp_eq (tgt := 116) dX0_work_106 (by decide) (fun c35 => ?_) (fun c35 => ?_)
          · replace H := ite_p H c35
            refine Ex.sub [2, 3, 4, 5, 0] rfl ?_
            exact t_X0_work_116 hd hk28 H
          · replace H := ite_m H c35
            refine x_iload dX0_work_109 0 rfl ?_
            refine x_bipush (v := 19) dX0_work_111 (by decide) ?_
            refine x_icmp_ge (tgt := 133) dX0_work_113 (by decide) (fun c36 => ?_) (fun c36 => ?_)
            · replace H := ite_p H c36
              refine x_aload_n dX0_work_133 rfl 2 rfl ?_
              obtain ⟨v37, h38, hc39, H⟩ := bd_o H
              refine x_callVi (As := []) (q := (RX0, TX0, 6)) dX0_work_134 mi_X0_pop lk_X0_97 im_X0_pop se_X0_pop rfl c28 rfl rfl (Nat.le_of_ble_eq_true rfl) (t_X0_pop (by omega) hc39) ?_
              refine x_istore (lv' := [(7, .int v37), (6, .int v26), (5, .int v25), (0, .ref x0), (1, .ref x1), (3, .int x3), (4, .int x4)]) dX0_work_137 (by decide) rfl rfl ?_
              refine x_aload_n dX0_work_139 rfl 3 rfl ?_
              refine x_iload dX0_work_140 1 rfl ?_
              refine x_aload_n dX0_work_142 rfl 3 rfl ?_
              obtain ⟨c50, H⟩ := ko_o H
              obtain ⟨v40, h41, hc42, H⟩ := bd_o H
              refine x_callVi (As := []) (q := (RX0, TX0, 6)) dX0_work_143 mi_X0_pop lk_X0_97 im_X0_pop se_X0_pop rfl c50 rfl rfl (Nat.le_of_ble_eq_true rfl) (t_X0_pop (by omega) hc42) ?_
              refine x_iload dX0_work_146 0 rfl ?_
              obtain ⟨v43, h44, hc45, H⟩ := bd_o H
              refine x_callSi (As := [.int v26, .int v40, .int v37]) dX0_work_148 mi_X0_ofTwo lk_X0_104 sm_X0_ofTwo rfl rfl (Nat.le_of_ble_eq_true rfl) (t_X0_ofTwo (by omega) hc45) ?_
              obtain ⟨c49, H⟩ := ko_o H
              obtain ⟨v46, h47, hc48, H⟩ := bd_o H
              refine x_callVv (As := [.int v43]) (q := (RX0, TX0, 6)) dX0_work_151 mi_X0_push lk_X0_93 im_X0_push se_X0_push rfl c49 rfl rfl (Nat.le_of_ble_eq_true rfl) (t_X0_push (by omega) hc48) ?_
              refine Ex.sub [3, 4, 5, 6] rfl ?_
              exact t_X0_work_154 hd hk28 H
            · replace H := ite_m H c36
              refine Ex.sub [2, 3, 4, 5, 0] rfl ?_
              exact t_X0_work_116 hd hk28 H
        · replace H := ite_p H c34
          refine x_aload_n dX0_work_94 rfl 2 rfl ?_
          refine x_iconst (v := 1) dX0_work_95 (by decide) ?_
          obtain ⟨v51, h52, hc53, H⟩ := bd_o H
          refine x_callVv (As := [.int 1]) (q := (RX0, TX0, 6)) dX0_work_96 mi_X0_push lk_X0_93 im_X0_push se_X0_push rfl c28 rfl rfl (Nat.le_of_ble_eq_true rfl) (t_X0_push (by omega) hc53) ?_
          refine x_goto (tgt := 154) dX0_work_99 (by decide) ?_
          refine Ex.sub [2, 3, 4, 5] rfl ?_
          exact t_X0_work_154 hd hk28 H
      · replace H := ite_m H c33
        refine x_aload_n dX0_work_73 rfl 2 rfl ?_
        refine x_aload_n dX0_work_74 rfl 2 rfl ?_
        refine x_getR fr_X0_11 dX0_work_75 c28 rfl c30 ?_
        refine x_iload dX0_work_78 0 rfl ?_
        obtain ⟨c54, H⟩ := chk_o H
        refine x_iald dX0_work_80 c31 (inb_in.mp c54) ?_
        obtain ⟨v55, h56, hc57, H⟩ := bd_o H
        refine x_callVv (As := [.int (hI h a29 v26.toNatClampNeg)]) (q := (RX0, TX0, 6)) dX0_work_81 mi_X0_push lk_X0_93 im_X0_push se_X0_push rfl c28 rfl rfl (Nat.le_of_ble_eq_true rfl) (t_X0_push (by omega) hc57) ?_
        refine x_goto (tgt := 154) dX0_work_84 (by decide) ?_
        refine Ex.sub [2, 3, 4, 5] rfl ?_
        exact t_X0_work_154 hd hk28 H
    · replace H := ite_m H c27
      refine x_aload_n dX0_work_54 rfl 2 rfl ?_
      refine x_iload dX0_work_55 1 rfl ?_
      obtain ⟨c61, H⟩ := ko_o H
      obtain ⟨v58, h59, hc60, H⟩ := bd_o H
      refine x_callVv (As := [.int v25]) (q := (RX0, TX0, 6)) dX0_work_57 mi_X0_push lk_X0_93 im_X0_push se_X0_push rfl c61 rfl rfl (Nat.le_of_ble_eq_true rfl) (t_X0_push (by omega) hc60) ?_
      refine x_goto (tgt := 154) dX0_work_60 (by decide) ?_
      refine Ex.sub [2, 3, 4, 5] rfl ?_
      exact t_X0_work_154 hd hk28 H
def f_X0_work_28 : Nat → Nat → Nat → Int32 → Int32 → aH → Option (Int32 × aH)
  | 0 => fun _ _ _ _ _ => none
  | n + 1 => b_X0_work_28 (f_X0_work_28 n)
set_option maxRecDepth 100000 in
set_option maxHeartbeats 4000000 in
theorem t_X0_work_28 {Γ : gS} {d : Nat} (hd : 3 ≤ d) (n : Nat) : ∀ {x0 : Nat} {x1 : Nat} {x3 : Int32} {x4 : Int32} {h : aH} {r : Int32} {h' : aH}, f_X0_work_28 n x0 x1 x3 x4 h = some (r, h') → Ex Γ gX0_work d 28 [(0, .ref x0), (1, .ref x1), (3, .int x3), (4, .int x4)] [] h (some (.int r)) h' := by
  induction n with
  | zero => intro x0 x1 x3 x4 h r h' H; cases H
  | succ n ih => intro x0 x1 x3 x4 h r h' H; exact tb_X0_work_28 hd ih H
def f_X0_work (x0 : Nat) (x1 : Nat) (x2 : Int32) (h : aH) : Option (Int32 × aH) :=
  ko h x0 0 <|
  ko h x1 4 <|
  kr (hR h x1 8) fun a64 =>
  ka h a64 .int fun n67 =>
  chk (inb x2 n67 = true) <|
  nm (hI (sI h x0 3 0) a64 x2.toNatClampNeg) fun (v69 : Int32) =>
  kr (hR h x1 6) fun a70 =>
  ka h a70 .int fun n73 =>
  bd (f_J9_min_7cf53 v69 (Int32.ofNat n73) (sI h x0 3 0)) fun v74 h75 =>
  ko h75 x1 4 <|
  kr (hR h75 x1 7) fun a78 =>
  ka h75 a78 .int fun n81 =>
  chk (inb x2 n81 = true) <|
  nm (hI h75 a78 x2.toNatClampNeg) fun (v83 : Int32) =>
  f_X0_work_28 FU x0 x1 v74 v83 h75
set_option maxRecDepth 100000 in
set_option maxHeartbeats 4000000 in
theorem t_X0_work {Γ : gS} {d : Nat} (hd : 3 ≤ d) {x0 : Nat} {x1 : Nat} {x2 : Int32} {h : aH} {r : Int32} {h' : aH} (H : f_X0_work x0 x1 x2 h = some (r, h')) : Mx Γ gX0_work d [.ref x0, .ref x1, .int x2] h (some (.int r)) h' := by
  refine Mx.of (by decide +kernel) (Nat.le_of_ble_eq_true rfl) ?_
  unfold f_X0_work at H
  show Ex Γ gX0_work d 0 [(0, .ref x0), (1, .ref x1), (2, .int x2)] [] h (some (.int r)) h'
  obtain ⟨d, rfl⟩ : ∃ e, d = e + 1 := ⟨d - 1, by omega⟩
  refine x_aload_n dX0_work_0 rfl 0 rfl ?_
  refine x_iconst (v := 0) dX0_work_1 (by decide) ?_
  obtain ⟨c62, H⟩ := ko_o H
  refine x_putI fl_X0_20 dX0_work_2 c62 (fun e => by cases e) rfl ?_
  refine x_aload_n dX0_work_5 rfl 1 rfl ?_
  obtain ⟨c63, H⟩ := ko_o H
  obtain ⟨a64, c65, H⟩ := kr_o H
  refine x_getR fr_X0_84 dX0_work_6 c63 rfl c65 ?_
  refine x_iload_n dX0_work_9 rfl 2 rfl ?_
  obtain ⟨n67, c66, H⟩ := ka_o H
  obtain ⟨c68, H⟩ := chk_o H
  obtain ⟨v69, ev69, H⟩ := nm_o H
  refine x_ialde dX0_work_10 c66 (inb_in.mp c68) ev69 ?_
  refine x_aload_n dX0_work_11 rfl 1 rfl ?_
  obtain ⟨a70, c71, H⟩ := kr_o H
  refine x_getR fr_X0_87 dX0_work_12 c63 rfl c71 ?_
  obtain ⟨n73, c72, H⟩ := ka_o H
  refine x_alen dX0_work_15 c72 (by decide) ?_
  obtain ⟨v74, h75, hc76, H⟩ := bd_o H
  refine x_callSi (As := [.int v69, .int (Int32.ofNat n73)]) dX0_work_16 mi_J9_min_7cf53 lk_X0_45 sm_J9_min_7cf53 rfl rfl (Nat.le_of_ble_eq_true rfl) (t_J9_min_7cf53 (by omega) hc76) ?_
  refine x_istore_n (lv' := [(3, .int v74), (0, .ref x0), (1, .ref x1), (2, .int x2)]) dX0_work_19 rfl (by decide) rfl rfl ?_
  refine x_aload_n dX0_work_20 rfl 2 rfl ?_
  obtain ⟨c77, H⟩ := ko_o H
  obtain ⟨a78, c79, H⟩ := kr_o H
  refine x_getR fr_X0_90 dX0_work_21 c77 rfl c79 ?_
  refine x_iload_n dX0_work_24 rfl 3 rfl ?_
  obtain ⟨n81, c80, H⟩ := ka_o H
  obtain ⟨c82, H⟩ := chk_o H
  refine x_iald dX0_work_25 c80 (inb_in.mp c82) ?_
  obtain ⟨v83, ev83, H⟩ := nm_o H
  refine x_istore (lv' := [(4, .int v83), (3, .int v74), (0, .ref x0), (1, .ref x1), (2, .int x2)]) dX0_work_26 (by decide) ev83 rfl ?_
  refine Ex.sub [2, 3, 1, 0] rfl ?_
  exact t_X0_work_28 hd FU H
def f_X0_padding (x0 : Nat) (x1 : Nat) (x2 : Int32) (h : aH) : Option (Int32 × aH) :=
  ko h x1 4 <|
  bd (f_X4_hasFormula x1 1 h) fun v1 h2 =>
  if v1 = 0 then
    some (0, h2)
  else
    ko h2 x0 0 <|
    kr (hR h2 x0 1) fun a6 =>
    ka h2 a6 .int fun n9 =>
    chk (inb 7 n9 = true) <|
    bd (f_X0_work x0 x1 1 (sI h2 a6 (7 : Int32).toNatClampNeg x2)) fun v11 h12 =>
    bd (f_J9_min_7cf53 99 v11 h12) fun v14 h15 =>
    bd (f_J9_max_7cf53 0 v14 h15) fun v17 h18 =>
    some (v17, h18)
set_option maxRecDepth 100000 in
set_option maxHeartbeats 4000000 in
theorem t_X0_padding {Γ : gS} {d : Nat} (hd : 4 ≤ d) {x0 : Nat} {x1 : Nat} {x2 : Int32} {h : aH} {r : Int32} {h' : aH} (H : f_X0_padding x0 x1 x2 h = some (r, h')) : Mx Γ gX0_padding d [.ref x0, .ref x1, .int x2] h (some (.int r)) h' := by
  refine Mx.of (by decide +kernel) (Nat.le_of_ble_eq_true rfl) ?_
  unfold f_X0_padding at H
  show Ex Γ gX0_padding d 0 [(0, .ref x0), (1, .ref x1), (2, .int x2)] [] h (some (.int r)) h'
  obtain ⟨d, rfl⟩ : ∃ e, d = e + 1 := ⟨d - 1, by omega⟩
  refine x_aload_n dX0_padding_0 rfl 1 rfl ?_
  refine x_iconst (v := 1) dX0_padding_1 (by decide) ?_
  obtain ⟨c20, H⟩ := ko_o H
  obtain ⟨v1, h2, hc3, H⟩ := bd_o H
  refine x_callVi (As := [.int 1]) (q := (RX4, TX4, 10)) dX0_padding_2 mi_X4_hasFormula lk_X0_37 im_X4_hasFormula se_X4_hasFormula rfl c20 rfl rfl (Nat.le_of_ble_eq_true rfl) (t_X4_hasFormula (by omega) hc3) ?_
  refine x_if_ne (tgt := 10) dX0_padding_5 (by decide) (fun c4 => ?_) (fun c4 => ?_)
  · replace H := ite_m H c4
    refine x_aload_n dX0_padding_10 rfl 0 rfl ?_
    obtain ⟨c5, H⟩ := ko_o H
    obtain ⟨a6, c7, H⟩ := kr_o H
    refine x_getR fr_X0_11 dX0_padding_11 c5 rfl c7 ?_
    refine x_bipush (v := 7) dX0_padding_14 (by decide) ?_
    refine x_iload_n dX0_padding_16 rfl 2 rfl ?_
    obtain ⟨n9, c8, H⟩ := ka_o H
    obtain ⟨c10, H⟩ := chk_o H
    refine x_iast dX0_padding_17 c8 (inb_in.mp c10) ?_
    refine x_iconst (v := 0) dX0_padding_18 (by decide) ?_
    refine x_bipush (v := 99) dX0_padding_19 (by decide) ?_
    refine x_aload_n dX0_padding_21 rfl 0 rfl ?_
    refine x_aload_n dX0_padding_22 rfl 1 rfl ?_
    refine x_iconst (v := 1) dX0_padding_23 (by decide) ?_
    obtain ⟨v11, h12, hc13, H⟩ := bd_o H
    refine x_callVi (As := [.ref x1, .int 1]) (q := (RX0, TX0, 6)) dX0_padding_24 mi_X0_work lk_X0_41 im_X0_work se_X0_work rfl c5 rfl rfl (Nat.le_of_ble_eq_true rfl) (t_X0_work (by omega) hc13) ?_
    obtain ⟨v14, h15, hc16, H⟩ := bd_o H
    refine x_callSi (As := [.int 99, .int v11]) dX0_padding_27 mi_J9_min_7cf53 lk_X0_45 sm_J9_min_7cf53 rfl rfl (Nat.le_of_ble_eq_true rfl) (t_J9_min_7cf53 (by omega) hc16) ?_
    obtain ⟨v17, h18, hc19, H⟩ := bd_o H
    refine x_callSi (As := [.int 0, .int v14]) dX0_padding_30 mi_J9_max_7cf53 lk_X0_51 sm_J9_max_7cf53 rfl rfl (Nat.le_of_ble_eq_true rfl) (t_J9_max_7cf53 (by omega) hc19) ?_
    obtain ⟨rfl, rfl⟩ := so_1 H
    exact x_iret dX0_padding_33 rfl rfl
  · replace H := ite_p H c4
    refine x_iconst (v := 0) dX0_padding_8 (by decide) ?_
    obtain ⟨rfl, rfl⟩ := so_1 H
    exact x_iret dX0_padding_9 rfl rfl
def f_X0_rank (x0 : Nat) (x1 : Nat) (x2 : Int32) (x3 : Int32) (x4 : Int32) (h : aH) : Option (Int32 × aH) :=
  ko h x1 4 <|
  bd (f_X4_hasFormula x1 0 h) fun v1 h2 =>
  if v1 = 0 then
    some (x3, h2)
  else
    ko h2 x0 0 <|
    kr (hR h2 x0 1) fun a6 =>
    ka h2 a6 .int fun n9 =>
    chk (inb 7 n9 = true) <|
    chk (inb 8 n9 = true) <|
    chk (inb 9 n9 = true) <|
    bd (f_X0_work x0 x1 0 (sI (sI (sI h2 a6 (7 : Int32).toNatClampNeg x2) a6 (8 : Int32).toNatClampNeg x3) a6 (9 : Int32).toNatClampNeg x4)) fun v13 h14 =>
    some (v13, h14)
set_option maxRecDepth 100000 in
set_option maxHeartbeats 4000000 in
theorem t_X0_rank {Γ : gS} {d : Nat} (hd : 4 ≤ d) {x0 : Nat} {x1 : Nat} {x2 : Int32} {x3 : Int32} {x4 : Int32} {h : aH} {r : Int32} {h' : aH} (H : f_X0_rank x0 x1 x2 x3 x4 h = some (r, h')) : Mx Γ gX0_rank d [.ref x0, .ref x1, .int x2, .int x3, .int x4] h (some (.int r)) h' := by
  refine Mx.of (by decide +kernel) (Nat.le_of_ble_eq_true rfl) ?_
  unfold f_X0_rank at H
  show Ex Γ gX0_rank d 0 [(0, .ref x0), (1, .ref x1), (2, .int x2), (3, .int x3), (4, .int x4)] [] h (some (.int r)) h'
  obtain ⟨d, rfl⟩ : ∃ e, d = e + 1 := ⟨d - 1, by omega⟩
  refine x_aload_n dX0_rank_0 rfl 1 rfl ?_
  refine x_iconst (v := 0) dX0_rank_1 (by decide) ?_
  obtain ⟨c16, H⟩ := ko_o H
  obtain ⟨v1, h2, hc3, H⟩ := bd_o H
  refine x_callVi (As := [.int 0]) (q := (RX4, TX4, 10)) dX0_rank_2 mi_X4_hasFormula lk_X0_37 im_X4_hasFormula se_X4_hasFormula rfl c16 rfl rfl (Nat.le_of_ble_eq_true rfl) (t_X4_hasFormula (by omega) hc3) ?_
  refine x_if_ne (tgt := 10) dX0_rank_5 (by decide) (fun c4 => ?_) (fun c4 => ?_)
  · replace H := ite_m H c4
    refine x_aload_n dX0_rank_10 rfl 0 rfl ?_
    obtain ⟨c5, H⟩ := ko_o H
    obtain ⟨a6, c7, H⟩ := kr_o H
    refine x_getR fr_X0_11 dX0_rank_11 c5 rfl c7 ?_
    refine x_bipush (v := 7) dX0_rank_14 (by decide) ?_
    refine x_iload_n dX0_rank_16 rfl 2 rfl ?_
    obtain ⟨n9, c8, H⟩ := ka_o H
    obtain ⟨c10, H⟩ := chk_o H
    refine x_iast dX0_rank_17 c8 (inb_in.mp c10) ?_
    refine x_aload_n dX0_rank_18 rfl 0 rfl ?_
    refine x_getR fr_X0_11 dX0_rank_19 c5 rfl c7 ?_
    refine x_bipush (v := 8) dX0_rank_22 (by decide) ?_
    refine x_iload_n dX0_rank_24 rfl 3 rfl ?_
    obtain ⟨c11, H⟩ := chk_o H
    refine x_iast dX0_rank_25 c8 (inb_in.mp c11) ?_
    refine x_aload_n dX0_rank_26 rfl 0 rfl ?_
    refine x_getR fr_X0_11 dX0_rank_27 c5 rfl c7 ?_
    refine x_bipush (v := 9) dX0_rank_30 (by decide) ?_
    refine x_iload dX0_rank_32 4 rfl ?_
    obtain ⟨c12, H⟩ := chk_o H
    refine x_iast dX0_rank_34 c8 (inb_in.mp c12) ?_
    refine x_aload_n dX0_rank_35 rfl 0 rfl ?_
    refine x_aload_n dX0_rank_36 rfl 1 rfl ?_
    refine x_iconst (v := 0) dX0_rank_37 (by decide) ?_
    obtain ⟨v13, h14, hc15, H⟩ := bd_o H
    refine x_callVi (As := [.ref x1, .int 0]) (q := (RX0, TX0, 6)) dX0_rank_38 mi_X0_work lk_X0_41 im_X0_work se_X0_work rfl c5 rfl rfl (Nat.le_of_ble_eq_true rfl) (t_X0_work (by omega) hc15) ?_
    obtain ⟨rfl, rfl⟩ := so_1 H
    exact x_iret dX0_rank_41 rfl rfl
  · replace H := ite_p H c4
    refine x_iload_n dX0_rank_8 rfl 3 rfl ?_
    obtain ⟨rfl, rfl⟩ := so_1 H
    exact x_iret dX0_rank_9 rfl rfl
def f_X0_setBounds (x0 : Nat) (x1 : Nat) (x2 : Int32) (h : aH) : Option (Unit × aH) :=
  ko h x0 0 <|
  kr (hR h x0 1) fun a2 =>
  ko h x1 6 <|
  nm (hI (sI h x0 5 x2) x1 2) fun (v5 : Int32) =>
  ka h a2 .int fun n7 =>
  chk (inb 10 n7 = true) <|
  bd (f_X6_base x1 x2 (sI (sI h x0 5 x2) a2 (10 : Int32).toNatClampNeg v5)) fun v9 h10 =>
  ka h10 a2 .int fun n13 =>
  chk (inb 11 n13 = true) <|
  ko h10 x0 0 <|
  kr (hR h10 x0 1) fun a16 =>
  ko h10 x1 6 <|
  bd (f_X6_extent x1 x2 (sI h10 a2 (11 : Int32).toNatClampNeg v9)) fun v18 h19 =>
  ka h19 a16 .int fun n22 =>
  chk (inb 12 n22 = true) <|
  ko h19 x0 0 <|
  kr (hR h19 x0 1) fun a25 =>
  ko h19 x1 6 <|
  nm (hI (sI h19 a16 (12 : Int32).toNatClampNeg v18) x1 6) fun (v28 : Int32) =>
  ka h19 a25 .int fun n30 =>
  chk (inb 13 n30 = true) <|
  some ((), sI (sI h19 a16 (12 : Int32).toNatClampNeg v18) a25 (13 : Int32).toNatClampNeg v28)
set_option maxRecDepth 100000 in
set_option maxHeartbeats 4000000 in
theorem t_X0_setBounds {Γ : gS} {d : Nat} (hd : 2 ≤ d) {x0 : Nat} {x1 : Nat} {x2 : Int32} {h : aH} {r : Unit} {h' : aH} (H : f_X0_setBounds x0 x1 x2 h = some (r, h')) : Mx Γ gX0_setBounds d [.ref x0, .ref x1, .int x2] h none h' := by
  refine Mx.of (by decide +kernel) (Nat.le_of_ble_eq_true rfl) ?_
  unfold f_X0_setBounds at H
  show Ex Γ gX0_setBounds d 0 [(0, .ref x0), (1, .ref x1), (2, .int x2)] [] h none h'
  obtain ⟨d, rfl⟩ : ∃ e, d = e + 1 := ⟨d - 1, by omega⟩
  refine x_aload_n dX0_setBounds_0 rfl 0 rfl ?_
  refine x_iload_n dX0_setBounds_1 rfl 2 rfl ?_
  obtain ⟨c1, H⟩ := ko_o H
  refine x_putI fl_X0_30 dX0_setBounds_2 c1 (fun e => by cases e) rfl ?_
  refine x_aload_n dX0_setBounds_5 rfl 0 rfl ?_
  obtain ⟨a2, c3, H⟩ := kr_o H
  refine x_getR fr_X0_11 dX0_setBounds_6 c1 rfl c3 ?_
  refine x_bipush (v := 10) dX0_setBounds_9 (by decide) ?_
  refine x_aload_n dX0_setBounds_11 rfl 1 rfl ?_
  obtain ⟨c4, H⟩ := ko_o H
  obtain ⟨v5, ev5, H⟩ := nm_o H
  refine x_getIe fr_X0_71 dX0_setBounds_12 c4 rfl ev5 ?_
  obtain ⟨n7, c6, H⟩ := ka_o H
  obtain ⟨c8, H⟩ := chk_o H
  refine x_iast dX0_setBounds_15 c6 (inb_in.mp c8) ?_
  refine x_aload_n dX0_setBounds_16 rfl 0 rfl ?_
  refine x_getR fr_X0_11 dX0_setBounds_17 c1 rfl c3 ?_
  refine x_bipush (v := 11) dX0_setBounds_20 (by decide) ?_
  refine x_aload_n dX0_setBounds_22 rfl 1 rfl ?_
  refine x_iload_n dX0_setBounds_23 rfl 2 rfl ?_
  obtain ⟨v9, h10, hc11, H⟩ := bd_o H
  refine x_callVi (As := [.int x2]) (q := (RX6, TX6, 8)) dX0_setBounds_24 mi_X6_base lk_X0_74 im_X6_base se_X6_base rfl c4 rfl rfl (Nat.le_of_ble_eq_true rfl) (t_X6_base (by omega) hc11) ?_
  obtain ⟨n13, c12, H⟩ := ka_o H
  obtain ⟨c14, H⟩ := chk_o H
  refine x_iast dX0_setBounds_27 c12 (inb_in.mp c14) ?_
  refine x_aload_n dX0_setBounds_28 rfl 0 rfl ?_
  obtain ⟨c15, H⟩ := ko_o H
  obtain ⟨a16, c17, H⟩ := kr_o H
  refine x_getR fr_X0_11 dX0_setBounds_29 c15 rfl c17 ?_
  refine x_bipush (v := 12) dX0_setBounds_32 (by decide) ?_
  refine x_aload_n dX0_setBounds_34 rfl 1 rfl ?_
  refine x_iload_n dX0_setBounds_35 rfl 2 rfl ?_
  obtain ⟨c32, H⟩ := ko_o H
  obtain ⟨v18, h19, hc20, H⟩ := bd_o H
  refine x_callVi (As := [.int x2]) (q := (RX6, TX6, 8)) dX0_setBounds_36 mi_X6_extent lk_X0_78 im_X6_extent se_X6_extent rfl c32 rfl rfl (Nat.le_of_ble_eq_true rfl) (t_X6_extent (by omega) hc20) ?_
  obtain ⟨n22, c21, H⟩ := ka_o H
  obtain ⟨c23, H⟩ := chk_o H
  refine x_iast dX0_setBounds_39 c21 (inb_in.mp c23) ?_
  refine x_aload_n dX0_setBounds_40 rfl 0 rfl ?_
  obtain ⟨c24, H⟩ := ko_o H
  obtain ⟨a25, c26, H⟩ := kr_o H
  refine x_getR fr_X0_11 dX0_setBounds_41 c24 rfl c26 ?_
  refine x_bipush (v := 13) dX0_setBounds_44 (by decide) ?_
  refine x_aload_n dX0_setBounds_46 rfl 1 rfl ?_
  obtain ⟨c27, H⟩ := ko_o H
  obtain ⟨v28, ev28, H⟩ := nm_o H
  refine x_getIe fr_X0_81 dX0_setBounds_47 c27 rfl ev28 ?_
  obtain ⟨n30, c29, H⟩ := ka_o H
  obtain ⟨c31, H⟩ := chk_o H
  refine x_iast dX0_setBounds_50 c29 (inb_in.mp c31) ?_
  obtain ⟨-, rfl⟩ := so_1 H
  exact x_vret dX0_setBounds_51 rfl
def f_X0_isTrapped_33 (s0 : Int32) (h : aH) : Option (Int32 × aH) :=
  chk (narrow .boolean (.int s0) = .int s0) <|
  some (s0, h)
set_option maxRecDepth 100000 in
set_option maxHeartbeats 4000000 in
theorem t_X0_isTrapped_33 {Γ : gS} {d : Nat} (hd : 4 ≤ d) {s0 : Int32} {h : aH} {r : Int32} {h' : aH} (H : f_X0_isTrapped_33 s0 h = some (r, h')) : Ex Γ gX0_isTrapped d 33 [] [.int s0] h (some (.int r)) h' := by
  unfold f_X0_isTrapped_33 at H
  obtain ⟨d, rfl⟩ : ∃ e, d = e + 1 := ⟨d - 1, by omega⟩
  obtain ⟨c1, H⟩ := chk_o H
  obtain ⟨rfl, rfl⟩ := so_1 H
  exact x_iret dX0_isTrapped_33 rfl c1
def f_X0_isTrapped (x0 : Nat) (x1 : Nat) (x2 : Nat) (h : aH) : Option (Int32 × aH) :=
  ko h x1 4 <|
  bd (f_X4_hasFormula x1 2 h) fun v2 h3 =>
  if v2 = 0 then
    some (0, h3)
  else
    ko h3 x1 4 <|
    ko h3 x0 0 <|
    bd (f_X0_setBounds x0 x2 (hI h3 x1 2) h3) fun _ h8 =>
    ko h8 x0 0 <|
    bd (f_X0_work x0 x1 2 h8) fun v10 h11 =>
    if v10 = 0 then
      f_X0_isTrapped_33 0 h11
    else
      f_X0_isTrapped_33 1 h11
set_option maxRecDepth 100000 in
set_option maxHeartbeats 4000000 in
theorem t_X0_isTrapped {Γ : gS} {d : Nat} (hd : 4 ≤ d) {x0 : Nat} {x1 : Nat} {x2 : Nat} {h : aH} {r : Int32} {h' : aH} (H : f_X0_isTrapped x0 x1 x2 h = some (r, h')) : Mx Γ gX0_isTrapped d [.ref x0, .ref x1, .ref x2] h (some (.int r)) h' := by
  refine Mx.of (by decide +kernel) (Nat.le_of_ble_eq_true rfl) ?_
  unfold f_X0_isTrapped at H
  show Ex Γ gX0_isTrapped d 0 [(0, .ref x0), (1, .ref x1), (2, .ref x2)] [] h (some (.int r)) h'
  obtain ⟨d, rfl⟩ : ∃ e, d = e + 1 := ⟨d - 1, by omega⟩
  refine x_aload_n dX0_isTrapped_0 rfl 1 rfl ?_
  refine x_iconst (v := 2) dX0_isTrapped_1 (by decide) ?_
  obtain ⟨c16, H⟩ := ko_o H
  obtain ⟨v2, h3, hc4, H⟩ := bd_o H
  refine x_callVi (As := [.int 2]) (q := (RX4, TX4, 10)) dX0_isTrapped_2 mi_X4_hasFormula lk_X0_37 im_X4_hasFormula se_X4_hasFormula rfl c16 rfl rfl (Nat.le_of_ble_eq_true rfl) (t_X4_hasFormula (by omega) hc4) ?_
  refine x_if_ne (tgt := 10) dX0_isTrapped_5 (by decide) (fun c5 => ?_) (fun c5 => ?_)
  · replace H := ite_m H c5
    refine x_aload_n dX0_isTrapped_10 rfl 0 rfl ?_
    refine x_aload_n dX0_isTrapped_11 rfl 2 rfl ?_
    refine x_aload_n dX0_isTrapped_12 rfl 1 rfl ?_
    obtain ⟨c6, H⟩ := ko_o H
    refine x_getI fr_X0_54 dX0_isTrapped_13 c6 rfl ?_
    obtain ⟨c15, H⟩ := ko_o H
    obtain ⟨v7, h8, hc9, H⟩ := bd_o H
    refine x_callVv (As := [.ref x2, .int (hI h3 x1 2)]) (q := (RX0, TX0, 6)) dX0_isTrapped_16 mi_X0_setBounds lk_X0_55 im_X0_setBounds se_X0_setBounds rfl c15 rfl rfl (Nat.le_of_ble_eq_true rfl) (t_X0_setBounds (by omega) hc9) ?_
    refine x_aload_n dX0_isTrapped_19 rfl 0 rfl ?_
    refine x_aload_n dX0_isTrapped_20 rfl 1 rfl ?_
    refine x_iconst (v := 2) dX0_isTrapped_21 (by decide) ?_
    obtain ⟨c14, H⟩ := ko_o H
    obtain ⟨v10, h11, hc12, H⟩ := bd_o H
    refine x_callVi (As := [.ref x1, .int 2]) (q := (RX0, TX0, 6)) dX0_isTrapped_22 mi_X0_work lk_X0_41 im_X0_work se_X0_work rfl c14 rfl rfl (Nat.le_of_ble_eq_true rfl) (t_X0_work (by omega) hc12) ?_
    refine x_if_eq (tgt := 32) dX0_isTrapped_25 (by decide) (fun c13 => ?_) (fun c13 => ?_)
    · replace H := ite_p H c13
      refine x_iconst (v := 0) dX0_isTrapped_32 (by decide) ?_
      refine Ex.sub [] rfl ?_
      exact t_X0_isTrapped_33 hd H
    · replace H := ite_m H c13
      refine x_iconst (v := 1) dX0_isTrapped_28 (by decide) ?_
      refine x_goto (tgt := 33) dX0_isTrapped_29 (by decide) ?_
      refine Ex.sub [] rfl ?_
      exact t_X0_isTrapped_33 hd H
  · replace H := ite_p H c5
    refine x_iconst (v := 0) dX0_isTrapped_8 (by decide) ?_
    obtain ⟨rfl, rfl⟩ := so_1 H
    exact x_iret dX0_isTrapped_9 rfl (by decide)
def f_X0_askOf_13 (h : aH) : Option (Int32 × aH) :=
  some (0, h)
set_option maxRecDepth 100000 in
set_option maxHeartbeats 4000000 in
theorem t_X0_askOf_13 {Γ : gS} {d : Nat} (hd : 4 ≤ d) {h : aH} {r : Int32} {h' : aH} (H : f_X0_askOf_13 h = some (r, h')) : Ex Γ gX0_askOf d 13 [] [] h (some (.int r)) h' := by
  unfold f_X0_askOf_13 at H
  obtain ⟨d, rfl⟩ : ∃ e, d = e + 1 := ⟨d - 1, by omega⟩
  refine x_iconst (v := 0) dX0_askOf_13 (by decide) ?_
  obtain ⟨rfl, rfl⟩ := so_1 H
  exact x_iret dX0_askOf_14 rfl rfl
def f_X0_askOf_90 (x0 : Nat) (x1 : Nat) (s0 : Nat) (s1 : Int32) (s2 : Int32) (h : aH) : Option (Int32 × aH) :=
  ka h s0 .int fun n2 =>
  chk (inb s1 n2 = true) <|
  ko h x0 0 <|
  bd (f_X0_work x0 x1 0 (sI h s0 s1.toNatClampNeg s2)) fun v4 h5 =>
  some (v4, h5)
set_option maxRecDepth 100000 in
set_option maxHeartbeats 4000000 in
theorem t_X0_askOf_90 {Γ : gS} {d : Nat} (hd : 4 ≤ d) {x0 : Nat} {x1 : Nat} {s0 : Nat} {s1 : Int32} {s2 : Int32} {h : aH} {r : Int32} {h' : aH} (H : f_X0_askOf_90 x0 x1 s0 s1 s2 h = some (r, h')) : Ex Γ gX0_askOf d 90 [(0, .ref x0), (1, .ref x1)] [.int s2, .int s1, .ref s0] h (some (.int r)) h' := by
  unfold f_X0_askOf_90 at H
  obtain ⟨d, rfl⟩ : ∃ e, d = e + 1 := ⟨d - 1, by omega⟩
  obtain ⟨n2, c1, H⟩ := ka_o H
  obtain ⟨c3, H⟩ := chk_o H
  refine x_iast dX0_askOf_90 c1 (inb_in.mp c3) ?_
  refine x_aload_n dX0_askOf_91 rfl 0 rfl ?_
  refine x_aload_n dX0_askOf_92 rfl 1 rfl ?_
  refine x_iconst (v := 0) dX0_askOf_93 (by decide) ?_
  obtain ⟨c7, H⟩ := ko_o H
  obtain ⟨v4, h5, hc6, H⟩ := bd_o H
  refine x_callVi (As := [.ref x1, .int 0]) (q := (RX0, TX0, 6)) dX0_askOf_94 mi_X0_work lk_X0_41 im_X0_work se_X0_work rfl c7 rfl rfl (Nat.le_of_ble_eq_true rfl) (t_X0_work (by omega) hc6) ?_
  obtain ⟨rfl, rfl⟩ := so_1 H
  exact x_iret dX0_askOf_97 rfl rfl
def f_X0_askOf (x0 : Nat) (x1 : Nat) (x2 : Int32) (x3 : Int32) (h : aH) : Option (Int32 × aH) :=
  if x2 < 0 then
    f_X0_askOf_13 h
  else
    ko h x0 0 <|
    kr (hR h x0 0) fun a10 =>
    ka h a10 (.object RX6) fun n13 =>
    if x2 < (Int32.ofNat n13) then
      chk (inb x2 n13 = true) <|
      kr (hR h a10 x2.toNatClampNeg) fun a16 =>
      kr (hR (sR h x0 4 (some a16)) x0 4) fun a18 =>
      bd (f_X0_setBounds x0 a18 x3 (sR h x0 4 (some a16))) fun _ h21 =>
      ko h21 x0 0 <|
      kr (hR h21 x0 1) fun a24 =>
      ka h21 a24 .int fun n27 =>
      chk (inb 14 n27 = true) <|
      kr (hR h21 x0 4) fun a29 =>
      ko h21 a29 6 <|
      nm (hI (sI h21 a24 (14 : Int32).toNatClampNeg x2) a29 3) fun (v32 : Int32) =>
      chk (inb 15 n27 = true) <|
      nm (hI (sI (sI h21 a24 (14 : Int32).toNatClampNeg x2) a24 (15 : Int32).toNatClampNeg v32) a29 7) fun (v34 : Int32) =>
      chk (inb 3 n27 = true) <|
      nm (hI (sI (sI (sI h21 a24 (14 : Int32).toNatClampNeg x2) a24 (15 : Int32).toNatClampNeg v32) a24 (3 : Int32).toNatClampNeg v34) a29 1) fun (v36 : Int32) =>
      if v36 = 0 then
        f_X0_askOf_90 x0 x1 a24 16 0 (sI (sI (sI h21 a24 (14 : Int32).toNatClampNeg x2) a24 (15 : Int32).toNatClampNeg v32) a24 (3 : Int32).toNatClampNeg v34)
      else
        f_X0_askOf_90 x0 x1 a24 16 1 (sI (sI (sI h21 a24 (14 : Int32).toNatClampNeg x2) a24 (15 : Int32).toNatClampNeg v32) a24 (3 : Int32).toNatClampNeg v34)
    else
      f_X0_askOf_13 h
set_option maxRecDepth 100000 in
set_option maxHeartbeats 4000000 in
theorem t_X0_askOf {Γ : gS} {d : Nat} (hd : 4 ≤ d) {x0 : Nat} {x1 : Nat} {x2 : Int32} {x3 : Int32} {h : aH} {r : Int32} {h' : aH} (H : f_X0_askOf x0 x1 x2 x3 h = some (r, h')) : Mx Γ gX0_askOf d [.ref x0, .ref x1, .int x2, .int x3] h (some (.int r)) h' := by
  refine Mx.of (by decide +kernel) (Nat.le_of_ble_eq_true rfl) ?_
  unfold f_X0_askOf at H
  show Ex Γ gX0_askOf d 0 [(0, .ref x0), (1, .ref x1), (2, .int x2), (3, .int x3)] [] h (some (.int r)) h'
  obtain ⟨d, rfl⟩ : ∃ e, d = e + 1 := ⟨d - 1, by omega⟩
  refine x_iload_n dX0_askOf_0 rfl 2 rfl ?_
  refine x_if_lt (tgt := 13) dX0_askOf_1 (by decide) (fun c8 => ?_) (fun c8 => ?_)
  · replace H := ite_p H c8
    refine Ex.sub [] rfl ?_
    exact t_X0_askOf_13 hd H
  · replace H := ite_m H c8
    refine x_iload_n dX0_askOf_4 rfl 2 rfl ?_
    refine x_aload_n dX0_askOf_5 rfl 0 rfl ?_
    obtain ⟨c9, H⟩ := ko_o H
    obtain ⟨a10, c11, H⟩ := kr_o H
    refine x_getR fr_X0_33 dX0_askOf_6 c9 rfl c11 ?_
    obtain ⟨n13, c12, H⟩ := ka_o H
    refine x_alen dX0_askOf_9 c12 (by decide) ?_
    refine x_icmp_lt (tgt := 15) dX0_askOf_10 (by decide) (fun c14 => ?_) (fun c14 => ?_)
    · replace H := ite_p H c14
      refine x_aload_n dX0_askOf_15 rfl 0 rfl ?_
      refine x_aload_n dX0_askOf_16 rfl 0 rfl ?_
      refine x_getR fr_X0_33 dX0_askOf_17 c9 rfl c11 ?_
      refine x_iload_n dX0_askOf_20 rfl 2 rfl ?_
      obtain ⟨c15, H⟩ := chk_o H
      obtain ⟨a16, c17, H⟩ := kr_o H
      refine x_aald dX0_askOf_21 c12 (by decide) (inb_in.mp c15) c17 ?_
      refine x_putR fl_X0_24 dX0_askOf_22 c9 (fun e => by cases e) rfl ?_
      refine x_aload_n dX0_askOf_25 rfl 0 rfl ?_
      refine x_aload_n dX0_askOf_26 rfl 0 rfl ?_
      obtain ⟨a18, c19, H⟩ := kr_o H
      refine x_getR fr_X0_24 dX0_askOf_27 c9 rfl c19 ?_
      refine x_iload_n dX0_askOf_30 rfl 3 rfl ?_
      obtain ⟨v20, h21, hc22, H⟩ := bd_o H
      refine x_callVv (As := [.ref a18, .int x3]) (q := (RX0, TX0, 6)) dX0_askOf_31 mi_X0_setBounds lk_X0_55 im_X0_setBounds se_X0_setBounds rfl c9 rfl rfl (Nat.le_of_ble_eq_true rfl) (t_X0_setBounds (by omega) hc22) ?_
      refine x_aload_n dX0_askOf_34 rfl 0 rfl ?_
      obtain ⟨c23, H⟩ := ko_o H
      obtain ⟨a24, c25, H⟩ := kr_o H
      refine x_getR fr_X0_11 dX0_askOf_35 c23 rfl c25 ?_
      refine x_bipush (v := 14) dX0_askOf_38 (by decide) ?_
      refine x_iload_n dX0_askOf_40 rfl 2 rfl ?_
      obtain ⟨n27, c26, H⟩ := ka_o H
      obtain ⟨c28, H⟩ := chk_o H
      refine x_iast dX0_askOf_41 c26 (inb_in.mp c28) ?_
      refine x_aload_n dX0_askOf_42 rfl 0 rfl ?_
      refine x_getR fr_X0_11 dX0_askOf_43 c23 rfl c25 ?_
      refine x_bipush (v := 15) dX0_askOf_46 (by decide) ?_
      refine x_aload_n dX0_askOf_48 rfl 0 rfl ?_
      obtain ⟨a29, c30, H⟩ := kr_o H
      refine x_getR fr_X0_24 dX0_askOf_49 c23 rfl c30 ?_
      obtain ⟨c31, H⟩ := ko_o H
      obtain ⟨v32, ev32, H⟩ := nm_o H
      refine x_getIe fr_X0_59 dX0_askOf_52 c31 rfl ev32 ?_
      obtain ⟨c33, H⟩ := chk_o H
      refine x_iast dX0_askOf_55 c26 (inb_in.mp c33) ?_
      refine x_aload_n dX0_askOf_56 rfl 0 rfl ?_
      refine x_getR fr_X0_11 dX0_askOf_57 c23 rfl c25 ?_
      refine x_iconst (v := 3) dX0_askOf_60 (by decide) ?_
      refine x_aload_n dX0_askOf_61 rfl 0 rfl ?_
      refine x_getR fr_X0_24 dX0_askOf_62 c23 rfl c30 ?_
      obtain ⟨v34, ev34, H⟩ := nm_o H
      refine x_getIe fr_X0_64 dX0_askOf_65 c31 rfl ev34 ?_
      obtain ⟨c35, H⟩ := chk_o H
      refine x_iast dX0_askOf_68 c26 (inb_in.mp c35) ?_
      refine x_aload_n dX0_askOf_69 rfl 0 rfl ?_
      refine x_getR fr_X0_11 dX0_askOf_70 c23 rfl c25 ?_
      refine x_bipush (v := 16) dX0_askOf_73 (by decide) ?_
      refine x_aload_n dX0_askOf_75 rfl 0 rfl ?_
      refine x_getR fr_X0_24 dX0_askOf_76 c23 rfl c30 ?_
      obtain ⟨v36, ev36, H⟩ := nm_o H
      refine x_getIe fr_X0_67 dX0_askOf_79 c31 rfl ev36 ?_
      refine x_if_eq (tgt := 89) dX0_askOf_82 (by decide) (fun c37 => ?_) (fun c37 => ?_)
      · replace H := ite_p H c37
        refine x_iconst (v := 0) dX0_askOf_89 (by decide) ?_
        refine Ex.sub [0, 1] rfl ?_
        exact t_X0_askOf_90 hd H
      · replace H := ite_m H c37
        refine x_iconst (v := 1) dX0_askOf_85 (by decide) ?_
        refine x_goto (tgt := 90) dX0_askOf_86 (by decide) ?_
        refine Ex.sub [0, 1] rfl ?_
        exact t_X0_askOf_90 hd H
    · replace H := ite_m H c14
      refine Ex.sub [] rfl ?_
      exact t_X0_askOf_13 hd H
def f_X1_init (x0 : Nat) (x1 : Nat) (x2 : Nat) (h : aH) : Option (Unit × aH) :=
  ko h x0 1 <|
  some ((), sR (sR (sI (sI (sI h x0 0 (-1)) x0 1 (-1)) x0 2 0) x0 3 (some x1)) x0 4 (some x2))
set_option maxRecDepth 100000 in
set_option maxHeartbeats 4000000 in
theorem t_X1_init {Γ : gS} {d : Nat} (hd : 1 ≤ d) {x0 : Nat} {x1 : Nat} {x2 : Nat} {h : aH} {r : Unit} {h' : aH} (H : f_X1_init x0 x1 x2 h = some (r, h')) : Mx Γ gX1_init d [.ref x0, .ref x1, .ref x2] h none h' := by
  refine Mx.of (by decide +kernel) (Nat.le_of_ble_eq_true rfl) ?_
  unfold f_X1_init at H
  show Ex Γ gX1_init d 0 [(0, .ref x0), (1, .ref x1), (2, .ref x2)] [] h none h'
  obtain ⟨d, rfl⟩ : ∃ e, d = e + 1 := ⟨d - 1, by omega⟩
  refine x_aload_n dX1_init_0 rfl 0 rfl ?_
  refine x_oinit dX1_init_1 lk_X1_3 im_obj co_obj (Nat.le_of_ble_eq_true rfl) ?_
  refine x_aload_n dX1_init_4 rfl 0 rfl ?_
  refine x_iconst (v := (-1)) dX1_init_5 (by decide) ?_
  obtain ⟨c1, H⟩ := ko_o H
  refine x_putI fl_X1_9 dX1_init_6 c1 (fun e => by cases e) rfl ?_
  refine x_aload_n dX1_init_9 rfl 0 rfl ?_
  refine x_iconst (v := (-1)) dX1_init_10 (by decide) ?_
  refine x_putI fl_X1_15 dX1_init_11 c1 (fun e => by cases e) rfl ?_
  refine x_aload_n dX1_init_14 rfl 0 rfl ?_
  refine x_iconst (v := 0) dX1_init_15 (by decide) ?_
  refine x_putI fl_X1_18 dX1_init_16 c1 (fun e => by cases e) rfl ?_
  refine x_aload_n dX1_init_19 rfl 0 rfl ?_
  refine x_aload_n dX1_init_20 rfl 1 rfl ?_
  refine x_putR fl_X1_21 dX1_init_21 c1 (fun _ => rfl) rfl ?_
  refine x_aload_n dX1_init_24 rfl 0 rfl ?_
  refine x_aload_n dX1_init_25 rfl 2 rfl ?_
  refine x_putR fl_X1_25 dX1_init_26 c1 (fun _ => rfl) rfl ?_
  obtain ⟨-, rfl⟩ := so_1 H
  exact x_vret dX1_init_29 rfl
def f_X1_search_29 (h : aH) : Option (Int32 × aH) :=
  some (0, h)
set_option maxRecDepth 100000 in
set_option maxHeartbeats 4000000 in
theorem t_X1_search_29 {Γ : gS} {d : Nat} (hd : 5 ≤ d) {h : aH} {r : Int32} {h' : aH} (H : f_X1_search_29 h = some (r, h')) : Ex Γ gX1_search d 29 [] [] h (some (.int r)) h' := by
  unfold f_X1_search_29 at H
  obtain ⟨d, rfl⟩ : ∃ e, d = e + 1 := ⟨d - 1, by omega⟩
  refine x_iconst (v := 0) dX1_search_29 (by decide) ?_
  obtain ⟨rfl, rfl⟩ := so_1 H
  exact x_iret dX1_search_30 rfl (by decide)
def f_X1_search_181 (k70 : Nat → Nat → Int32 → Int32 → Int32 → aH → Option (Int32 × aH)) (x0 : Nat) (x1 : Nat) (x4 : Int32) (x5 : Int32) (x6 : Int32) (h : aH) : Option (Int32 × aH) :=
  nm (x6 + 1) fun (v1 : Int32) =>
  k70 x0 x1 x4 x5 v1 h
set_option maxRecDepth 100000 in
set_option maxHeartbeats 4000000 in
theorem t_X1_search_181 {Γ : gS} {d : Nat} (hd : 5 ≤ d) {k70 : Nat → Nat → Int32 → Int32 → Int32 → aH → Option (Int32 × aH)} (hk70 : ∀ {x0 : Nat} {x1 : Nat} {x4 : Int32} {x5 : Int32} {x6 : Int32} {h : aH} {r : Int32} {h' : aH}, k70 x0 x1 x4 x5 x6 h = some (r, h') → Ex Γ gX1_search d 70 [(0, .ref x0), (1, .ref x1), (4, .int x4), (5, .int x5), (6, .int x6)] [] h (some (.int r)) h') {x0 : Nat} {x1 : Nat} {x4 : Int32} {x5 : Int32} {x6 : Int32} {h : aH} {r : Int32} {h' : aH} (H : f_X1_search_181 k70 x0 x1 x4 x5 x6 h = some (r, h')) : Ex Γ gX1_search d 181 [(0, .ref x0), (1, .ref x1), (4, .int x4), (5, .int x5), (6, .int x6)] [] h (some (.int r)) h' := by
  unfold f_X1_search_181 at H
  obtain ⟨d, rfl⟩ : ∃ e, d = e + 1 := ⟨d - 1, by omega⟩
  obtain ⟨v1, ev1, H⟩ := nm_o H
  refine x_iinc (v := v1) (lv' := [(6, .int v1), (0, .ref x0), (1, .ref x1), (4, .int x4), (5, .int x5)]) dX1_search_181 4 rfl (by decide) ev1 rfl ?_
  refine x_goto (tgt := 70) dX1_search_184 (by decide) ?_
  refine Ex.sub [1, 2, 3, 4, 0] rfl ?_
  exact hk70 H
def f_X1_search_165 (k70 : Nat → Nat → Int32 → Int32 → Int32 → aH → Option (Int32 × aH)) (x0 : Nat) (x1 : Nat) (x4 : Int32) (x6 : Int32) (x9 : Int32) (x10 : Int32) (h : aH) : Option (Int32 × aH) :=
  ko h x0 1 <|
  f_X1_search_181 k70 x0 x1 x4 x10 x6 (sI (sI h x0 0 x6) x0 1 x9)
set_option maxRecDepth 100000 in
set_option maxHeartbeats 4000000 in
theorem t_X1_search_165 {Γ : gS} {d : Nat} (hd : 5 ≤ d) {k70 : Nat → Nat → Int32 → Int32 → Int32 → aH → Option (Int32 × aH)} (hk70 : ∀ {x0 : Nat} {x1 : Nat} {x4 : Int32} {x5 : Int32} {x6 : Int32} {h : aH} {r : Int32} {h' : aH}, k70 x0 x1 x4 x5 x6 h = some (r, h') → Ex Γ gX1_search d 70 [(0, .ref x0), (1, .ref x1), (4, .int x4), (5, .int x5), (6, .int x6)] [] h (some (.int r)) h') {x0 : Nat} {x1 : Nat} {x4 : Int32} {x6 : Int32} {x9 : Int32} {x10 : Int32} {h : aH} {r : Int32} {h' : aH} (H : f_X1_search_165 k70 x0 x1 x4 x6 x9 x10 h = some (r, h')) : Ex Γ gX1_search d 165 [(0, .ref x0), (1, .ref x1), (4, .int x4), (6, .int x6), (9, .int x9), (10, .int x10)] [] h (some (.int r)) h' := by
  unfold f_X1_search_165 at H
  obtain ⟨d, rfl⟩ : ∃ e, d = e + 1 := ⟨d - 1, by omega⟩
  refine x_aload_n dX1_search_165 rfl 0 rfl ?_
  refine x_iload dX1_search_166 3 rfl ?_
  obtain ⟨c2, H⟩ := ko_o H
  refine x_putI fl_X1_9 dX1_search_168 c2 (fun e => by cases e) rfl ?_
  refine x_aload_n dX1_search_171 rfl 0 rfl ?_
  refine x_iload dX1_search_172 4 rfl ?_
  refine x_putI fl_X1_15 dX1_search_174 c2 (fun e => by cases e) rfl ?_
  refine x_iload dX1_search_177 5 rfl ?_
  refine x_istore (lv' := [(5, .int x10), (0, .ref x0), (1, .ref x1), (4, .int x4), (6, .int x6), (9, .int x9), (10, .int x10)]) dX1_search_179 (by decide) rfl rfl ?_
  refine Ex.sub [1, 2, 3, 0, 4] rfl ?_
  exact t_X1_search_181 hd hk70 H
def f_X1_search_200 (s0 : Int32) (h : aH) : Option (Int32 × aH) :=
  chk (narrow .boolean (.int s0) = .int s0) <|
  some (s0, h)
set_option maxRecDepth 100000 in
set_option maxHeartbeats 4000000 in
theorem t_X1_search_200 {Γ : gS} {d : Nat} (hd : 5 ≤ d) {s0 : Int32} {h : aH} {r : Int32} {h' : aH} (H : f_X1_search_200 s0 h = some (r, h')) : Ex Γ gX1_search d 200 [] [.int s0] h (some (.int r)) h' := by
  unfold f_X1_search_200 at H
  obtain ⟨d, rfl⟩ : ∃ e, d = e + 1 := ⟨d - 1, by omega⟩
  obtain ⟨c3, H⟩ := chk_o H
  obtain ⟨rfl, rfl⟩ := so_1 H
  exact x_iret dX1_search_200 rfl c3
def b_X1_search_70 (k70 : Nat → Nat → Int32 → Int32 → Int32 → aH → Option (Int32 × aH)) (x0 : Nat) (x1 : Nat) (x4 : Int32) (x5 : Int32) (x6 : Int32) (h : aH) : Option (Int32 × aH) :=
  ko h x0 1 <|
  kr (hR h x0 3) fun a5 =>
  ko h a5 9 <|
  if (hI h a5 6) < x6 then
    if (hI h x0 0) = (-1) then
      f_X1_search_200 0 h
    else
      f_X1_search_200 1 h
  else
    bd (f_X9_gapStart a5 x6 h) fun v10 h11 =>
    ko h11 x0 1 <|
    kr (hR h11 x0 3) fun a14 =>
    ko h11 x1 4 <|
    ko h11 a14 9 <|
    bd (f_X9_gapLength a14 x6 (hI h11 x1 1) h11) fun v17 h18 =>
    bd (f_X6_up v10 x4 h18) fun v20 h21 =>
    ko h21 x0 1 <|
    if (v10 + v17) < (v20 + (hI h21 x0 2)) then
      f_X1_search_181 k70 x0 x1 x4 x5 x6 h21
    else
      kr (hR h21 x0 4) fun a25 =>
      ko h21 a25 0 <|
      bd (f_X0_rank a25 x1 (hI h21 x0 2) v10 v17 h21) fun v27 h28 =>
      ko h28 x0 1 <|
      if (hI h28 x0 0) = (-1) then
        f_X1_search_165 k70 x0 x1 x4 x6 v20 v27 h28
      else
        if x5 ≤ v27 then
          f_X1_search_181 k70 x0 x1 x4 x5 x6 h28
        else
          f_X1_search_165 k70 x0 x1 x4 x6 v20 v27 h28
set_option maxRecDepth 100000 in
set_option maxHeartbeats 4000000 in
theorem tb_X1_search_70 {Γ : gS} {d : Nat} (hd : 5 ≤ d) {k70 : Nat → Nat → Int32 → Int32 → Int32 → aH → Option (Int32 × aH)} (hk70 : ∀ {x0 : Nat} {x1 : Nat} {x4 : Int32} {x5 : Int32} {x6 : Int32} {h : aH} {r : Int32} {h' : aH}, k70 x0 x1 x4 x5 x6 h = some (r, h') → Ex Γ gX1_search d 70 [(0, .ref x0), (1, .ref x1), (4, .int x4), (5, .int x5), (6, .int x6)] [] h (some (.int r)) h') {x0 : Nat} {x1 : Nat} {x4 : Int32} {x5 : Int32} {x6 : Int32} {h : aH} {r : Int32} {h' : aH} (H : b_X1_search_70 k70 x0 x1 x4 x5 x6 h = some (r, h')) : Ex Γ gX1_search d 70 [(0, .ref x0), (1, .ref x1), (4, .int x4), (5, .int x5), (6, .int x6)] [] h (some (.int r)) h' := by
  unfold b_X1_search_70 at H
  obtain ⟨d, rfl⟩ : ∃ e, d = e + 1 := ⟨d - 1, by omega⟩
  refine x_iload dX1_search_70 4 rfl ?_
  refine x_aload_n dX1_search_72 rfl 0 rfl ?_
  obtain ⟨c4, H⟩ := ko_o H
  obtain ⟨a5, c6, H⟩ := kr_o H
  refine x_getR fr_X1_21 dX1_search_73 c4 rfl c6 ?_
  obtain ⟨c7, H⟩ := ko_o H
  refine x_getI fr_X1_29 dX1_search_76 c7 rfl ?_
  refine x_icmp_gt (tgt := 187) dX1_search_79 (by decide) (fun c8 => ?_) (fun c8 => ?_)
  · replace H := ite_p H c8
    refine x_aload_n dX1_search_187 rfl 0 rfl ?_
    refine x_getI fr_X1_9 dX1_search_188 c4 rfl ?_
    refine x_iconst (v := (-1)) dX1_search_191 (by decide) ?_
    refine x_icmp_eq (tgt := 199) dX1_search_192 (by decide) (fun c9 => ?_) (fun c9 => ?_)
    · replace H := ite_p H c9
      refine x_iconst (v := 0) dX1_search_199 (by decide) ?_
      refine Ex.sub [] rfl ?_
      exact t_X1_search_200 hd H
    · replace H := ite_m H c9
      refine x_iconst (v := 1) dX1_search_195 (by decide) ?_
      refine x_goto (tgt := 200) dX1_search_196 (by decide) ?_
      refine Ex.sub [] rfl ?_
      exact t_X1_search_200 hd H
  · replace H := ite_m H c8
    refine x_aload_n dX1_search_82 rfl 0 rfl ?_
    refine x_getR fr_X1_21 dX1_search_83 c4 rfl c6 ?_
    refine x_iload dX1_search_86 4 rfl ?_
    obtain ⟨v10, h11, hc12, H⟩ := bd_o H
    refine x_callVi (As := [.int x6]) (q := (RX9, TX9, 8)) dX1_search_88 mi_X9_gapStart lk_X1_55 im_X9_gapStart se_X9_gapStart rfl c7 rfl rfl (Nat.le_of_ble_eq_true rfl) (t_X9_gapStart (by omega) hc12) ?_
    refine x_istore (lv' := [(7, .int v10), (0, .ref x0), (1, .ref x1), (4, .int x4), (5, .int x5), (6, .int x6)]) dX1_search_91 (by decide) rfl rfl ?_
    refine x_aload_n dX1_search_93 rfl 1 rfl ?_
    obtain ⟨c13, H⟩ := ko_o H
    obtain ⟨a14, c15, H⟩ := kr_o H
    refine x_getR fr_X1_21 dX1_search_94 c13 rfl c15 ?_
    refine x_iload dX1_search_97 5 rfl ?_
    refine x_aload_n dX1_search_99 rfl 2 rfl ?_
    obtain ⟨c16, H⟩ := ko_o H
    refine x_getI fr_X1_59 dX1_search_100 c16 rfl ?_
    obtain ⟨c34, H⟩ := ko_o H
    obtain ⟨v17, h18, hc19, H⟩ := bd_o H
    refine x_callVi (As := [.int x6, .int (hI h11 x1 1)]) (q := (RX9, TX9, 8)) dX1_search_103 mi_X9_gapLength lk_X1_62 im_X9_gapLength se_X9_gapLength rfl c34 rfl rfl (Nat.le_of_ble_eq_true rfl) (t_X9_gapLength (by omega) hc19) ?_
    refine x_istore (lv' := [(8, .int v17), (7, .int v10), (0, .ref x0), (1, .ref x1), (4, .int x4), (5, .int x5), (6, .int x6)]) dX1_search_106 (by decide) rfl rfl ?_
    refine x_iload dX1_search_108 1 rfl ?_
    refine x_iload dX1_search_110 4 rfl ?_
    obtain ⟨v20, h21, hc22, H⟩ := bd_o H
    refine x_callSi (As := [.int v10, .int x4]) dX1_search_112 mi_X6_up lk_X1_51 sm_X6_up rfl rfl (Nat.le_of_ble_eq_true rfl) (t_X6_up (by omega) hc22) ?_
    refine x_istore (lv' := [(9, .int v20), (8, .int v17), (7, .int v10), (0, .ref x0), (1, .ref x1), (4, .int x4), (5, .int x5), (6, .int x6)]) dX1_search_115 (by decide) rfl rfl ?_
    refine x_iload dX1_search_117 0 rfl ?_
    refine x_aload_n dX1_search_119 rfl 3 rfl ?_
    obtain ⟨c23, H⟩ := ko_o H
    refine x_getI fr_X1_18 dX1_search_120 c23 rfl ?_
    refine x_iadd dX1_search_123 ?_
    refine x_iload dX1_search_124 2 rfl ?_
    refine x_iload dX1_search_126 1 rfl ?_
    refine x_iadd dX1_search_128 ?_
    refine x_icmp_gt (tgt := 181) dX1_search_129 (by decide) (fun c24 => ?_) (fun c24 => ?_)
    · replace H := ite_p H c24
      refine Ex.sub [3, 4, 5, 6, 7] rfl ?_
      exact t_X1_search_181 hd hk70 H
    · replace H := ite_m H c24
      refine x_aload_n dX1_search_132 rfl 3 rfl ?_
      obtain ⟨a25, c26, H⟩ := kr_o H
      refine x_getR fr_X1_25 dX1_search_133 c23 rfl c26 ?_
      refine x_aload_n dX1_search_136 rfl 4 rfl ?_
      refine x_aload_n dX1_search_137 rfl 3 rfl ?_
      refine x_getI fr_X1_18 dX1_search_138 c23 rfl ?_
      refine x_iload dX1_search_141 2 rfl ?_
      refine x_iload dX1_search_143 1 rfl ?_
      obtain ⟨c33, H⟩ := ko_o H
      obtain ⟨v27, h28, hc29, H⟩ := bd_o H
      refine x_callVi (As := [.ref x1, .int (hI h21 x0 2), .int v10, .int v17]) (q := (RX0, TX0, 6)) dX1_search_145 mi_X0_rank lk_X1_65 im_X0_rank se_X0_rank rfl c33 rfl rfl (Nat.le_of_ble_eq_true rfl) (t_X0_rank (by omega) hc29) ?_
      refine x_istore (lv' := [(10, .int v27), (9, .int v20), (8, .int v17), (7, .int v10), (0, .ref x0), (1, .ref x1), (4, .int x4), (5, .int x5), (6, .int x6)]) dX1_search_148 (by decide) rfl rfl ?_
      refine x_aload_n dX1_search_150 rfl 4 rfl ?_
      obtain ⟨c30, H⟩ := ko_o H
      refine x_getI fr_X1_9 dX1_search_151 c30 rfl ?_
      refine x_iconst (v := (-1)) dX1_search_154 (by decide) ?_
      refine x_icmp_eq (tgt := 165) dX1_search_155 (by decide) (fun c31 => ?_) (fun c31 => ?_)
      · replace H := ite_p H c31
        refine Ex.sub [4, 5, 6, 8, 1, 0] rfl ?_
        exact t_X1_search_165 hd hk70 H
      · replace H := ite_m H c31
        refine x_iload dX1_search_158 0 rfl ?_
        refine x_iload dX1_search_160 7 rfl ?_
        refine x_icmp_ge (tgt := 181) dX1_search_162 (by decide) (fun c32 => ?_) (fun c32 => ?_)
        · replace H := ite_p H c32
          refine Ex.sub [4, 5, 6, 7, 8] rfl ?_
          exact t_X1_search_181 hd hk70 H
        · replace H := ite_m H c32
          refine Ex.sub [4, 5, 6, 8, 1, 0] rfl ?_
          exact t_X1_search_165 hd hk70 H
def f_X1_search_70 : Nat → Nat → Nat → Int32 → Int32 → Int32 → aH → Option (Int32 × aH)
  | 0 => fun _ _ _ _ _ _ => none
  | n + 1 => b_X1_search_70 (f_X1_search_70 n)
set_option maxRecDepth 100000 in
set_option maxHeartbeats 4000000 in
theorem t_X1_search_70 {Γ : gS} {d : Nat} (hd : 5 ≤ d) (n : Nat) : ∀ {x0 : Nat} {x1 : Nat} {x4 : Int32} {x5 : Int32} {x6 : Int32} {h : aH} {r : Int32} {h' : aH}, f_X1_search_70 n x0 x1 x4 x5 x6 h = some (r, h') → Ex Γ gX1_search d 70 [(0, .ref x0), (1, .ref x1), (4, .int x4), (5, .int x5), (6, .int x6)] [] h (some (.int r)) h' := by
  induction n with
  | zero => intro x0 x1 x4 x5 x6 h r h' H; cases H
  | succ n ih => intro x0 x1 x4 x5 x6 h r h' H; exact tb_X1_search_70 hd ih H
def f_X1_search (x0 : Nat) (x1 : Nat) (x2 : Int32) (h : aH) : Option (Int32 × aH) :=
  ko h x0 1 <|
  if x2 < 1 then
    f_X1_search_29 (sI h x0 0 (-1))
  else
    if 1024 < x2 then
      f_X1_search_29 (sI h x0 0 (-1))
    else
      kr (hR h x0 3) fun a38 =>
      ko h a38 9 <|
      nm (hI (sI h x0 0 (-1)) a38 6) fun (v41 : Int32) =>
      if v41 < 32 then
        kr (hR h x0 4) fun a43 =>
        ko h a43 0 <|
        bd (f_X0_padding a43 x1 x2 (sI h x0 0 (-1))) fun v45 h46 =>
        nm (x2 + v45) fun (v48 : Int32) =>
        ko h46 x1 4 <|
        bd (f_X6_leastExponent 0 v48 (hI h46 x1 2) h46) fun v50 h51 =>
        bd (f_X6_up v48 v50 h51) fun v53 h54 =>
        ko h54 x0 1 <|
        f_X1_search_70 FU x0 x1 v50 0 0 (sI h54 x0 2 v53)
      else
        f_X1_search_29 (sI h x0 0 (-1))
set_option maxRecDepth 100000 in
set_option maxHeartbeats 4000000 in
theorem t_X1_search {Γ : gS} {d : Nat} (hd : 5 ≤ d) {x0 : Nat} {x1 : Nat} {x2 : Int32} {h : aH} {r : Int32} {h' : aH} (H : f_X1_search x0 x1 x2 h = some (r, h')) : Mx Γ gX1_search d [.ref x0, .ref x1, .int x2] h (some (.int r)) h' := by
  refine Mx.of (by decide +kernel) (Nat.le_of_ble_eq_true rfl) ?_
  unfold f_X1_search at H
  show Ex Γ gX1_search d 0 [(0, .ref x0), (1, .ref x1), (2, .int x2)] [] h (some (.int r)) h'
  obtain ⟨d, rfl⟩ : ∃ e, d = e + 1 := ⟨d - 1, by omega⟩
  refine x_aload_n dX1_search_0 rfl 0 rfl ?_
  refine x_iconst (v := (-1)) dX1_search_1 (by decide) ?_
  obtain ⟨c35, H⟩ := ko_o H
  refine x_putI fl_X1_9 dX1_search_2 c35 (fun e => by cases e) rfl ?_
  refine x_iload_n dX1_search_5 rfl 2 rfl ?_
  refine x_iconst (v := 1) dX1_search_6 (by decide) ?_
  refine x_icmp_lt (tgt := 29) dX1_search_7 (by decide) (fun c36 => ?_) (fun c36 => ?_)
  · replace H := ite_p H c36
    refine Ex.sub [] rfl ?_
    exact t_X1_search_29 hd H
  · replace H := ite_m H c36
    refine x_iload_n dX1_search_10 rfl 2 rfl ?_
    refine x_sipush (v := 1024) dX1_search_11 (by decide) ?_
    refine x_icmp_gt (tgt := 29) dX1_search_14 (by decide) (fun c37 => ?_) (fun c37 => ?_)
    · replace H := ite_p H c37
      refine Ex.sub [] rfl ?_
      exact t_X1_search_29 hd H
    · replace H := ite_m H c37
      refine x_aload_n dX1_search_17 rfl 0 rfl ?_
      obtain ⟨a38, c39, H⟩ := kr_o H
      refine x_getR fr_X1_21 dX1_search_18 c35 rfl c39 ?_
      obtain ⟨c40, H⟩ := ko_o H
      obtain ⟨v41, ev41, H⟩ := nm_o H
      refine x_getIe fr_X1_29 dX1_search_21 c40 rfl ev41 ?_
      refine x_bipush (v := 32) dX1_search_24 (by decide) ?_
      refine x_icmp_lt (tgt := 31) dX1_search_26 (by decide) (fun c42 => ?_) (fun c42 => ?_)
      · replace H := ite_p H c42
        refine x_iload_n dX1_search_31 rfl 2 rfl ?_
        refine x_aload_n dX1_search_32 rfl 0 rfl ?_
        obtain ⟨a43, c44, H⟩ := kr_o H
        refine x_getR fr_X1_25 dX1_search_33 c35 rfl c44 ?_
        refine x_aload_n dX1_search_36 rfl 1 rfl ?_
        refine x_iload_n dX1_search_37 rfl 2 rfl ?_
        obtain ⟨c57, H⟩ := ko_o H
        obtain ⟨v45, h46, hc47, H⟩ := bd_o H
        refine x_callVi (As := [.ref x1, .int x2]) (q := (RX0, TX0, 6)) dX1_search_38 mi_X0_padding lk_X1_34 im_X0_padding se_X0_padding rfl c57 rfl rfl (Nat.le_of_ble_eq_true rfl) (t_X0_padding (by omega) hc47) ?_
        refine x_iadd dX1_search_41 ?_
        obtain ⟨v48, ev48, H⟩ := nm_o H
        refine x_istore_n (lv' := [(3, .int v48), (0, .ref x0), (1, .ref x1), (2, .int x2)]) dX1_search_42 rfl (by decide) ev48 rfl ?_
        refine x_iconst (v := 0) dX1_search_43 (by decide) ?_
        refine x_iload_n dX1_search_44 rfl 0 rfl ?_
        refine x_aload_n dX1_search_45 rfl 2 rfl ?_
        obtain ⟨c49, H⟩ := ko_o H
        refine x_getI fr_X1_40 dX1_search_46 c49 rfl ?_
        obtain ⟨v50, h51, hc52, H⟩ := bd_o H
        refine x_callSi (As := [.int 0, .int v48, .int (hI h46 x1 2)]) dX1_search_49 mi_X6_leastExponent lk_X1_45 sm_X6_leastExponent rfl rfl (Nat.le_of_ble_eq_true rfl) (t_X6_leastExponent (by omega) hc52) ?_
        refine x_istore (lv' := [(4, .int v50), (3, .int v48), (0, .ref x0), (1, .ref x1), (2, .int x2)]) dX1_search_52 (by decide) rfl rfl ?_
        refine x_aload_n dX1_search_54 rfl 2 rfl ?_
        refine x_iload_n dX1_search_55 rfl 1 rfl ?_
        refine x_iload dX1_search_56 0 rfl ?_
        obtain ⟨v53, h54, hc55, H⟩ := bd_o H
        refine x_callSi (As := [.int v48, .int v50]) dX1_search_58 mi_X6_up lk_X1_51 sm_X6_up rfl rfl (Nat.le_of_ble_eq_true rfl) (t_X6_up (by omega) hc55) ?_
        obtain ⟨c56, H⟩ := ko_o H
        refine x_putI fl_X1_18 dX1_search_61 c56 (fun e => by cases e) rfl ?_
        refine x_iconst (v := 0) dX1_search_64 (by decide) ?_
        refine x_istore (lv' := [(5, .int 0), (4, .int v50), (3, .int v48), (0, .ref x0), (1, .ref x1), (2, .int x2)]) dX1_search_65 (by decide) rfl rfl ?_
        refine x_iconst (v := 0) dX1_search_67 (by decide) ?_
        refine x_istore (lv' := [(6, .int 0), (5, .int 0), (4, .int v50), (3, .int v48), (0, .ref x0), (1, .ref x1), (2, .int x2)]) dX1_search_68 (by decide) rfl rfl ?_
        refine Ex.sub [4, 5, 2, 1, 0] rfl ?_
        exact t_X1_search_70 hd FU H
      · replace H := ite_m H c42
        refine Ex.sub [] rfl ?_
        exact t_X1_search_29 hd H
