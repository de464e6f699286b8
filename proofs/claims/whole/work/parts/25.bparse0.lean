def f_X5_fail (x0 : Nat) (x1 : Int32) (x2 : Int32) (h : aH) : Option (Int32 × aH) :=
  ko h x0 5 <|
  some (0, sI (sI h x0 0 x1) x0 1 x2)
set_option maxRecDepth 100000 in
set_option maxHeartbeats 4000000 in
theorem t_X5_fail {Γ : gS} {d : Nat} (hd : 0 ≤ d) {x0 : Nat} {x1 : Int32} {x2 : Int32} {h : aH} {r : Int32} {h' : aH} (H : f_X5_fail x0 x1 x2 h = some (r, h')) : Mx Γ gX5_fail d [.ref x0, .int x1, .int x2] h (some (.int r)) h' := by
  refine Mx.of (by decide +kernel) (Nat.le_of_ble_eq_true rfl) ?_
  unfold f_X5_fail at H
  show Ex Γ gX5_fail d 0 [(0, .ref x0), (1, .int x1), (2, .int x2)] [] h (some (.int r)) h'
  refine x_aload_n dX5_fail_0 rfl 0 rfl ?_
  refine x_iload_n dX5_fail_1 rfl 1 rfl ?_
  obtain ⟨c1, H⟩ := ko_o H
  refine x_putI fl_X5_13 dX5_fail_2 c1 (fun e => by cases e) rfl ?_
  refine x_aload_n dX5_fail_5 rfl 0 rfl ?_
  refine x_iload_n dX5_fail_6 rfl 2 rfl ?_
  refine x_putI fl_X5_17 dX5_fail_7 c1 (fun e => by cases e) rfl ?_
  refine x_iconst (v := 0) dX5_fail_10 (by decide) ?_
  obtain ⟨rfl, rfl⟩ := so_1 H
  exact x_iret dX5_fail_11 rfl (by decide)
def f_X5_opening (x0 : Nat) (x1 : Int32) (h : aH) : Option (Int32 × aH) :=
  if x1 < 6 then
    ko h x0 5 <|
    kr (hR h x0 2) fun a3 =>
    ko h a3 7 <|
    bd (f_X7_next a3 h) fun _ h6 =>
    some (1, h6)
  else
    ko h x0 5 <|
    kr (hR h x0 2) fun a10 =>
    ko h a10 7 <|
    bd (f_X5_fail x0 4 (hI h a10 3) h) fun v13 h14 =>
    chk (narrow .boolean (.int v13) = .int v13) <|
    some (v13, h14)
set_option maxRecDepth 100000 in
set_option maxHeartbeats 4000000 in
theorem t_X5_opening {Γ : gS} {d : Nat} (hd : 8 ≤ d) {x0 : Nat} {x1 : Int32} {h : aH} {r : Int32} {h' : aH} (H : f_X5_opening x0 x1 h = some (r, h')) : Mx Γ gX5_opening d [.ref x0, .int x1] h (some (.int r)) h' := by
  refine Mx.of (by decide +kernel) (Nat.le_of_ble_eq_true rfl) ?_
  unfold f_X5_opening at H
  show Ex Γ gX5_opening d 0 [(0, .ref x0), (1, .int x1)] [] h (some (.int r)) h'
  obtain ⟨d, rfl⟩ : ∃ e, d = e + 1 := ⟨d - 1, by omega⟩
  refine x_iload_n dX5_opening_0 rfl 1 rfl ?_
  refine x_bipush (v := 6) dX5_opening_1 (by decide) ?_
  refine x_icmp_lt (tgt := 19) dX5_opening_3 (by decide) (fun c1 => ?_) (fun c1 => ?_)
  · replace H := ite_p H c1
    refine x_aload_n dX5_opening_19 rfl 0 rfl ?_
    obtain ⟨c2, H⟩ := ko_o H
    obtain ⟨a3, c4, H⟩ := kr_o H
    refine x_getR fr_X5_23 dX5_opening_20 c2 rfl c4 ?_
    obtain ⟨c8, H⟩ := ko_o H
    obtain ⟨v5, h6, hc7, H⟩ := bd_o H
    refine x_callVv (As := []) (q := (RX7, TX7, 6)) dX5_opening_23 mi_X7_next lk_X5_97 im_X7_next se_X7_next rfl c8 rfl rfl (Nat.le_of_ble_eq_true rfl) (t_X7_next (by omega) hc7) ?_
    refine x_iconst (v := 1) dX5_opening_26 (by decide) ?_
    obtain ⟨rfl, rfl⟩ := so_1 H
    exact x_iret dX5_opening_27 rfl (by decide)
  · replace H := ite_m H c1
    refine x_aload_n dX5_opening_6 rfl 0 rfl ?_
    refine x_iconst (v := 4) dX5_opening_7 (by decide) ?_
    refine x_aload_n dX5_opening_8 rfl 0 rfl ?_
    obtain ⟨c9, H⟩ := ko_o H
    obtain ⟨a10, c11, H⟩ := kr_o H
    refine x_getR fr_X5_23 dX5_opening_9 c9 rfl c11 ?_
    obtain ⟨c12, H⟩ := ko_o H
    refine x_getI fr_X5_60 dX5_opening_12 c12 rfl ?_
    obtain ⟨v13, h14, hc15, H⟩ := bd_o H
    refine x_callVi (As := [.int 4, .int (hI h a10 3)]) (q := (RX5, TX5, 5)) dX5_opening_15 mi_X5_fail lk_X5_63 im_X5_fail se_X5_fail rfl c9 rfl rfl (Nat.le_of_ble_eq_true rfl) (t_X5_fail (by omega) hc15) ?_
    obtain ⟨c16, H⟩ := chk_o H
    obtain ⟨rfl, rfl⟩ := so_1 H
    exact x_iret dX5_opening_18 rfl c16
def f_X5_sign (x0 : Nat) (x1 : Int32) (h : aH) : Option (Int32 × aH) :=
  ko h x0 5 <|
  kr (hR h x0 2) fun a2 =>
  ko h a2 7 <|
  bd (f_X7_isSign a2 x1 h) fun v4 h5 =>
  if v4 = 0 then
    ko h5 x0 5 <|
    kr (hR h5 x0 2) fun a16 =>
    ko h5 a16 7 <|
    bd (f_X5_fail x0 1 (hI h5 a16 3) h5) fun v19 h20 =>
    chk (narrow .boolean (.int v19) = .int v19) <|
    some (v19, h20)
  else
    ko h5 x0 5 <|
    kr (hR h5 x0 2) fun a9 =>
    ko h5 a9 7 <|
    bd (f_X7_next a9 h5) fun _ h12 =>
    some (1, h12)
set_option maxRecDepth 100000 in
set_option maxHeartbeats 4000000 in
theorem t_X5_sign {Γ : gS} {d : Nat} (hd : 8 ≤ d) {x0 : Nat} {x1 : Int32} {h : aH} {r : Int32} {h' : aH} (H : f_X5_sign x0 x1 h = some (r, h')) : Mx Γ gX5_sign d [.ref x0, .int x1] h (some (.int r)) h' := by
  refine Mx.of (by decide +kernel) (Nat.le_of_ble_eq_true rfl) ?_
  unfold f_X5_sign at H
  show Ex Γ gX5_sign d 0 [(0, .ref x0), (1, .int x1)] [] h (some (.int r)) h'
  obtain ⟨d, rfl⟩ : ∃ e, d = e + 1 := ⟨d - 1, by omega⟩
  refine x_aload_n dX5_sign_0 rfl 0 rfl ?_
  obtain ⟨c1, H⟩ := ko_o H
  obtain ⟨a2, c3, H⟩ := kr_o H
  refine x_getR fr_X5_23 dX5_sign_1 c1 rfl c3 ?_
  refine x_iload_n dX5_sign_4 rfl 1 rfl ?_
  obtain ⟨c23, H⟩ := ko_o H
  obtain ⟨v4, h5, hc6, H⟩ := bd_o H
  refine x_callVi (As := [.int x1]) (q := (RX7, TX7, 6)) dX5_sign_5 mi_X7_isSign lk_X5_141 im_X7_isSign se_X7_isSign rfl c23 rfl rfl (Nat.le_of_ble_eq_true rfl) (t_X7_isSign (by omega) hc6) ?_
  refine x_if_ne (tgt := 24) dX5_sign_8 (by decide) (fun c7 => ?_) (fun c7 => ?_)
  · replace H := ite_m H c7
    refine x_aload_n dX5_sign_24 rfl 0 rfl ?_
    obtain ⟨c8, H⟩ := ko_o H
    obtain ⟨a9, c10, H⟩ := kr_o H
    refine x_getR fr_X5_23 dX5_sign_25 c8 rfl c10 ?_
    obtain ⟨c14, H⟩ := ko_o H
    obtain ⟨v11, h12, hc13, H⟩ := bd_o H
    refine x_callVv (As := []) (q := (RX7, TX7, 6)) dX5_sign_28 mi_X7_next lk_X5_97 im_X7_next se_X7_next rfl c14 rfl rfl (Nat.le_of_ble_eq_true rfl) (t_X7_next (by omega) hc13) ?_
    refine x_iconst (v := 1) dX5_sign_31 (by decide) ?_
    obtain ⟨rfl, rfl⟩ := so_1 H
    exact x_iret dX5_sign_32 rfl (by decide)
  · replace H := ite_p H c7
    refine x_aload_n dX5_sign_11 rfl 0 rfl ?_
    refine x_iconst (v := 1) dX5_sign_12 (by decide) ?_
    refine x_aload_n dX5_sign_13 rfl 0 rfl ?_
    obtain ⟨c15, H⟩ := ko_o H
    obtain ⟨a16, c17, H⟩ := kr_o H
    refine x_getR fr_X5_23 dX5_sign_14 c15 rfl c17 ?_
    obtain ⟨c18, H⟩ := ko_o H
    refine x_getI fr_X5_60 dX5_sign_17 c18 rfl ?_
    obtain ⟨v19, h20, hc21, H⟩ := bd_o H
    refine x_callVi (As := [.int 1, .int (hI h5 a16 3)]) (q := (RX5, TX5, 5)) dX5_sign_20 mi_X5_fail lk_X5_63 im_X5_fail se_X5_fail rfl c15 rfl rfl (Nat.le_of_ble_eq_true rfl) (t_X5_fail (by omega) hc21) ?_
    obtain ⟨c22, H⟩ := chk_o H
    obtain ⟨rfl, rfl⟩ := so_1 H
    exact x_iret dX5_sign_23 rfl c22
def f_X5_number_91 (s0 : Int32) (h : aH) : Option (Int32 × aH) :=
  chk (narrow .boolean (.int s0) = .int s0) <|
  some (s0, h)
set_option maxRecDepth 100000 in
set_option maxHeartbeats 4000000 in
theorem t_X5_number_91 {Γ : gS} {d : Nat} (hd : 1 ≤ d) {s0 : Int32} {h : aH} {r : Int32} {h' : aH} (H : f_X5_number_91 s0 h = some (r, h')) : Ex Γ gX5_number d 91 [] [.int s0] h (some (.int r)) h' := by
  unfold f_X5_number_91 at H
  obtain ⟨d, rfl⟩ : ∃ e, d = e + 1 := ⟨d - 1, by omega⟩
  obtain ⟨c1, H⟩ := chk_o H
  obtain ⟨rfl, rfl⟩ := so_1 H
  exact x_iret dX5_number_91 rfl c1
def f_X5_number_86 (h : aH) : Option (Int32 × aH) :=
  f_X5_number_91 1 h
set_option maxRecDepth 100000 in
set_option maxHeartbeats 4000000 in
theorem t_X5_number_86 {Γ : gS} {d : Nat} (hd : 1 ≤ d) {h : aH} {r : Int32} {h' : aH} (H : f_X5_number_86 h = some (r, h')) : Ex Γ gX5_number d 86 [] [] h (some (.int r)) h' := by
  unfold f_X5_number_86 at H
  obtain ⟨d, rfl⟩ : ∃ e, d = e + 1 := ⟨d - 1, by omega⟩
  refine x_iconst (v := 1) dX5_number_86 (by decide) ?_
  refine x_goto (tgt := 91) dX5_number_87 (by decide) ?_
  exact t_X5_number_91 hd H
def f_X5_number_71 (x0 : Nat) (h : aH) : Option (Int32 × aH) :=
  ko h x0 5 <|
  kr (hR h x0 2) fun a3 =>
  ko h a3 7 <|
  bd (f_X5_fail x0 2 (hI h a3 3) h) fun v6 h7 =>
  if v6 = 0 then
    f_X5_number_91 0 h7
  else
    f_X5_number_86 h7
set_option maxRecDepth 100000 in
set_option maxHeartbeats 4000000 in
theorem t_X5_number_71 {Γ : gS} {d : Nat} (hd : 1 ≤ d) {x0 : Nat} {h : aH} {r : Int32} {h' : aH} (H : f_X5_number_71 x0 h = some (r, h')) : Ex Γ gX5_number d 71 [(0, .ref x0)] [] h (some (.int r)) h' := by
  unfold f_X5_number_71 at H
  obtain ⟨d, rfl⟩ : ∃ e, d = e + 1 := ⟨d - 1, by omega⟩
  refine x_aload_n dX5_number_71 rfl 0 rfl ?_
  refine x_iconst (v := 2) dX5_number_72 (by decide) ?_
  refine x_aload_n dX5_number_73 rfl 0 rfl ?_
  obtain ⟨c2, H⟩ := ko_o H
  obtain ⟨a3, c4, H⟩ := kr_o H
  refine x_getR fr_X5_23 dX5_number_74 c2 rfl c4 ?_
  obtain ⟨c5, H⟩ := ko_o H
  refine x_getI fr_X5_60 dX5_number_77 c5 rfl ?_
  obtain ⟨v6, h7, hc8, H⟩ := bd_o H
  refine x_callVi (As := [.int 2, .int (hI h a3 3)]) (q := (RX5, TX5, 5)) dX5_number_80 mi_X5_fail lk_X5_63 im_X5_fail se_X5_fail rfl c2 rfl rfl (Nat.le_of_ble_eq_true rfl) (t_X5_fail (by omega) hc8) ?_
  refine x_if_eq (tgt := 90) dX5_number_83 (by decide) (fun c9 => ?_) (fun c9 => ?_)
  · replace H := ite_p H c9
    refine x_iconst (v := 0) dX5_number_90 (by decide) ?_
    refine Ex.sub [] rfl ?_
    exact t_X5_number_91 hd H
  · replace H := ite_m H c9
    refine Ex.sub [] rfl ?_
    exact t_X5_number_86 hd H
def f_X5_number (x0 : Nat) (x1 : Int32) (x2 : Int32) (h : aH) : Option (Int32 × aH) :=
  ko h x0 5 <|
  kr (hR h x0 2) fun a11 =>
  ko h a11 7 <|
  if (hI h a11 2) = 2 then
    bd (f_X7_isTooLong a11 h) fun v15 h16 =>
    if v15 = 0 then
      ko h16 x0 5 <|
      kr (hR h16 x0 2) fun a20 =>
      ko h16 a20 7 <|
      if (hI h16 a20 5) < x1 then
        f_X5_number_71 x0 h16
      else
        if (hI h16 a20 5) ≤ x2 then
          f_X5_number_86 h16
        else
          f_X5_number_71 x0 h16
    else
      ko h16 x0 5 <|
      kr (hR h16 x0 2) fun a26 =>
      ko h16 a26 7 <|
      bd (f_X5_fail x0 1 ((hI h16 a26 3) + 4) h16) fun v29 h30 =>
      chk (narrow .boolean (.int v29) = .int v29) <|
      some (v29, h30)
  else
    bd (f_X5_fail x0 1 (hI h a11 3) h) fun v33 h34 =>
    chk (narrow .boolean (.int v33) = .int v33) <|
    some (v33, h34)
set_option maxRecDepth 100000 in
set_option maxHeartbeats 4000000 in
theorem t_X5_number {Γ : gS} {d : Nat} (hd : 1 ≤ d) {x0 : Nat} {x1 : Int32} {x2 : Int32} {h : aH} {r : Int32} {h' : aH} (H : f_X5_number x0 x1 x2 h = some (r, h')) : Mx Γ gX5_number d [.ref x0, .int x1, .int x2] h (some (.int r)) h' := by
  refine Mx.of (by decide +kernel) (Nat.le_of_ble_eq_true rfl) ?_
  unfold f_X5_number at H
  show Ex Γ gX5_number d 0 [(0, .ref x0), (1, .int x1), (2, .int x2)] [] h (some (.int r)) h'
  obtain ⟨d, rfl⟩ : ∃ e, d = e + 1 := ⟨d - 1, by omega⟩
  refine x_aload_n dX5_number_0 rfl 0 rfl ?_
  obtain ⟨c10, H⟩ := ko_o H
  obtain ⟨a11, c12, H⟩ := kr_o H
  refine x_getR fr_X5_23 dX5_number_1 c10 rfl c12 ?_
  obtain ⟨c13, H⟩ := ko_o H
  refine x_getI fr_X5_46 dX5_number_4 c13 rfl ?_
  refine x_iconst (v := 2) dX5_number_7 (by decide) ?_
  refine x_icmp_eq (tgt := 24) dX5_number_8 (by decide) (fun c14 => ?_) (fun c14 => ?_)
  · replace H := ite_p H c14
    refine x_aload_n dX5_number_24 rfl 0 rfl ?_
    refine x_getR fr_X5_23 dX5_number_25 c10 rfl c12 ?_
    obtain ⟨v15, h16, hc17, H⟩ := bd_o H
    refine x_callVi (As := []) (q := (RX7, TX7, 6)) dX5_number_28 mi_X7_isTooLong lk_X5_144 im_X7_isTooLong se_X7_isTooLong rfl c13 rfl rfl (Nat.le_of_ble_eq_true rfl) (t_X7_isTooLong (by omega) hc17) ?_
    refine x_if_eq (tgt := 49) dX5_number_31 (by decide) (fun c18 => ?_) (fun c18 => ?_)
    · replace H := ite_p H c18
      refine x_aload_n dX5_number_49 rfl 0 rfl ?_
      obtain ⟨c19, H⟩ := ko_o H
      obtain ⟨a20, c21, H⟩ := kr_o H
      refine x_getR fr_X5_23 dX5_number_50 c19 rfl c21 ?_
      obtain ⟨c22, H⟩ := ko_o H
      refine x_getI fr_X5_70 dX5_number_53 c22 rfl ?_
      refine x_iload_n dX5_number_56 rfl 1 rfl ?_
      refine x_icmp_lt (tgt := 71) dX5_number_57 (by decide) (fun c23 => ?_) (fun c23 => ?_)
      · replace H := ite_p H c23
        refine Ex.sub [0] rfl ?_
        exact t_X5_number_71 hd H
      · replace H := ite_m H c23
        refine x_aload_n dX5_number_60 rfl 0 rfl ?_
        refine x_getR fr_X5_23 dX5_number_61 c19 rfl c21 ?_
        refine x_getI fr_X5_70 dX5_number_64 c22 rfl ?_
        refine x_iload_n dX5_number_67 rfl 2 rfl ?_
        refine x_icmp_le (tgt := 86) dX5_number_68 (by decide) (fun c24 => ?_) (fun c24 => ?_)
        · replace H := ite_p H c24
          refine Ex.sub [] rfl ?_
          exact t_X5_number_86 hd H
        · replace H := ite_m H c24
          refine Ex.sub [0] rfl ?_
          exact t_X5_number_71 hd H
    · replace H := ite_m H c18
      refine x_aload_n dX5_number_34 rfl 0 rfl ?_
      refine x_iconst (v := 1) dX5_number_35 (by decide) ?_
      refine x_aload_n dX5_number_36 rfl 0 rfl ?_
      obtain ⟨c25, H⟩ := ko_o H
      obtain ⟨a26, c27, H⟩ := kr_o H
      refine x_getR fr_X5_23 dX5_number_37 c25 rfl c27 ?_
      obtain ⟨c28, H⟩ := ko_o H
      refine x_getI fr_X5_60 dX5_number_40 c28 rfl ?_
      refine x_iconst (v := 4) dX5_number_43 (by decide) ?_
      refine x_iadd dX5_number_44 ?_
      obtain ⟨v29, h30, hc31, H⟩ := bd_o H
      refine x_callVi (As := [.int 1, .int ((hI h16 a26 3) + 4)]) (q := (RX5, TX5, 5)) dX5_number_45 mi_X5_fail lk_X5_63 im_X5_fail se_X5_fail rfl c25 rfl rfl (Nat.le_of_ble_eq_true rfl) (t_X5_fail (by omega) hc31) ?_
      obtain ⟨c32, H⟩ := chk_o H
      obtain ⟨rfl, rfl⟩ := so_1 H
      exact x_iret dX5_number_48 rfl c32
  · replace H := ite_m H c14
    refine x_aload_n dX5_number_11 rfl 0 rfl ?_
    refine x_iconst (v := 1) dX5_number_12 (by decide) ?_
    refine x_aload_n dX5_number_13 rfl 0 rfl ?_
    refine x_getR fr_X5_23 dX5_number_14 c10 rfl c12 ?_
    refine x_getI fr_X5_60 dX5_number_17 c13 rfl ?_
    obtain ⟨v33, h34, hc35, H⟩ := bd_o H
    refine x_callVi (As := [.int 1, .int (hI h a11 3)]) (q := (RX5, TX5, 5)) dX5_number_20 mi_X5_fail lk_X5_63 im_X5_fail se_X5_fail rfl c10 rfl rfl (Nat.le_of_ble_eq_true rfl) (t_X5_fail (by omega) hc35) ?_
    obtain ⟨c36, H⟩ := chk_o H
    obtain ⟨rfl, rfl⟩ := so_1 H
    exact x_iret dX5_number_23 rfl c36
