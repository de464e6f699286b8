theorem sw_lo {x k : Int32} {a : Int} (h : x < k) (hk : k.toInt = a) : x.toInt < a := by rw [← hk]; exact Int32.lt_iff_toInt_lt.mp h
theorem sw_hi {x k : Int32} {a : Int} (h : k < x) (hk : k.toInt = a) : a < x.toInt := by rw [← hk]; exact Int32.lt_iff_toInt_lt.mp h
def f_X6_down (x0 : Int32) (x1 : Int32) (h : aH) : Option (Int32 × aH) :=
  some ((x0 >>> (x1 &&& 31)) <<< (x1 &&& 31), h)
set_option maxRecDepth 100000 in
set_option maxHeartbeats 4000000 in
theorem t_X6_down {Γ : gS} {d : Nat} (hd : 0 ≤ d) {x0 : Int32} {x1 : Int32} {h : aH} {r : Int32} {h' : aH} (H : f_X6_down x0 x1 h = some (r, h')) : Mx Γ gX6_down d [.int x0, .int x1] h (some (.int r)) h' := by
  refine Mx.of (by decide) (Nat.le_of_ble_eq_true rfl) ?_
  unfold f_X6_down at H
  show Ex Γ gX6_down d 0 [(0, .int x0), (1, .int x1)] [] h (some (.int r)) h'
  refine x_iload_n dX6_down_0 rfl 0 rfl ?_
  refine x_iload_n dX6_down_1 rfl 1 rfl ?_
  refine x_ishr dX6_down_2 ?_
  refine x_iload_n dX6_down_3 rfl 1 rfl ?_
  refine x_ishl dX6_down_4 ?_
  obtain ⟨rfl, rfl⟩ := so_1 H
  exact x_iret dX6_down_5 rfl rfl
def f_X6_up (x0 : Int32) (x1 : Int32) (h : aH) : Option (Int32 × aH) :=
  bd (f_X6_down ((x0 + (1 <<< (x1 &&& 31))) - 1) x1 h) fun v1 h2 =>
  some (v1, h2)
set_option maxRecDepth 100000 in
set_option maxHeartbeats 4000000 in
theorem t_X6_up {Γ : gS} {d : Nat} (hd : 1 ≤ d) {x0 : Int32} {x1 : Int32} {h : aH} {r : Int32} {h' : aH} (H : f_X6_up x0 x1 h = some (r, h')) : Mx Γ gX6_up d [.int x0, .int x1] h (some (.int r)) h' := by
  refine Mx.of (by decide) (Nat.le_of_ble_eq_true rfl) ?_
  unfold f_X6_up at H
  show Ex Γ gX6_up d 0 [(0, .int x0), (1, .int x1)] [] h (some (.int r)) h'
  obtain ⟨d, rfl⟩ : ∃ e, d = e + 1 := ⟨d - 1, by omega⟩
  refine x_iload_n dX6_up_0 rfl 0 rfl ?_
  refine x_iconst (v := 1) dX6_up_1 (by decide) ?_
  refine x_iload_n dX6_up_2 rfl 1 rfl ?_
  refine x_ishl dX6_up_3 ?_
  refine x_iadd dX6_up_4 ?_
  refine x_iconst (v := 1) dX6_up_5 (by decide) ?_
  refine x_isub dX6_up_6 ?_
  refine x_iload_n dX6_up_7 rfl 1 rfl ?_
  obtain ⟨v1, h2, hc3, H⟩ := bd_o H
  refine x_callSi (As := [.int ((x0 + (1 <<< (x1 &&& 31))) - 1), .int x1]) dX6_up_8 mi_X6_down lk_X6_41 sm_X6_down rfl rfl (Nat.le_of_ble_eq_true rfl) (t_X6_down (by omega) hc3) ?_
  obtain ⟨rfl, rfl⟩ := so_1 H
  exact x_iret dX6_up_11 rfl rfl
def b_X6_leastExponent_8 (k8 : Int32 → Int32 → Int32 → Int32 → Int32 → aH → Option (Int32 × aH)) (x0 : Int32) (x1 : Int32) (x2 : Int32) (x3 : Int32) (x4 : Int32) (h : aH) : Option (Int32 × aH) :=
  if x3 ≤ x4 then
    some (x3, h)
  else
    bd (f_X6_up x1 x4 h) fun v2 h3 =>
    bd (f_X6_down x0 x4 h3) fun v5 h6 =>
    nm (v2 - v5) fun (v8 : Int32) =>
    if (1 <<< ((x2 - 1) &&& 31)) < (v8 >>> (x4 &&& 31)) then
      nm (x4 + 1) fun (v10 : Int32) =>
      k8 x0 x1 x2 x3 v10 h6
    else
      some (x4, h6)
set_option maxRecDepth 100000 in
set_option maxHeartbeats 4000000 in
theorem tb_X6_leastExponent_8 {Γ : gS} {d : Nat} (hd : 2 ≤ d) {k8 : Int32 → Int32 → Int32 → Int32 → Int32 → aH → Option (Int32 × aH)} (hk8 : ∀ {x0 : Int32} {x1 : Int32} {x2 : Int32} {x3 : Int32} {x4 : Int32} {h : aH} {r : Int32} {h' : aH}, k8 x0 x1 x2 x3 x4 h = some (r, h') → Ex Γ gX6_leastExponent d 8 [(0, .int x0), (1, .int x1), (2, .int x2), (3, .int x3), (4, .int x4)] [] h (some (.int r)) h') {x0 : Int32} {x1 : Int32} {x2 : Int32} {x3 : Int32} {x4 : Int32} {h : aH} {r : Int32} {h' : aH} (H : b_X6_leastExponent_8 k8 x0 x1 x2 x3 x4 h = some (r, h')) : Ex Γ gX6_leastExponent d 8 [(0, .int x0), (1, .int x1), (2, .int x2), (3, .int x3), (4, .int x4)] [] h (some (.int r)) h' := by
  unfold b_X6_leastExponent_8 at H
  obtain ⟨d, rfl⟩ : ∃ e, d = e + 1 := ⟨d - 1, by omega⟩
  refine x_iload dX6_leastExponent_8 4 rfl ?_
  refine x_iload_n dX6_leastExponent_10 rfl 3 rfl ?_
  refine x_icmp_ge (tgt := 51) dX6_leastExponent_11 (by decide) (fun c1 => ?_) (fun c1 => ?_)
  · replace H := ite_p H c1
    refine x_iload_n dX6_leastExponent_51 rfl 3 rfl ?_
    obtain ⟨rfl, rfl⟩ := so_1 H
    exact x_iret dX6_leastExponent_52 rfl rfl
  · replace H := ite_m H c1
    refine x_iload_n dX6_leastExponent_14 rfl 1 rfl ?_
    refine x_iload dX6_leastExponent_15 4 rfl ?_
    obtain ⟨v2, h3, hc4, H⟩ := bd_o H
    refine x_callSi (As := [.int x1, .int x4]) dX6_leastExponent_17 mi_X6_up lk_X6_37 sm_X6_up rfl rfl (Nat.le_of_ble_eq_true rfl) (t_X6_up (by omega) hc4) ?_
    refine x_iload_n dX6_leastExponent_20 rfl 0 rfl ?_
    refine x_iload dX6_leastExponent_21 4 rfl ?_
    obtain ⟨v5, h6, hc7, H⟩ := bd_o H
    refine x_callSi (As := [.int x0, .int x4]) dX6_leastExponent_23 mi_X6_down lk_X6_41 sm_X6_down rfl rfl (Nat.le_of_ble_eq_true rfl) (t_X6_down (by omega) hc7) ?_
    refine x_isub dX6_leastExponent_26 ?_
    obtain ⟨v8, ev8, H⟩ := nm_o H
    refine x_istore (lv' := [(5, .int v8), (0, .int x0), (1, .int x1), (2, .int x2), (3, .int x3), (4, .int x4)]) dX6_leastExponent_27 (by decide) ev8 rfl ?_
    refine x_iload dX6_leastExponent_29 0 rfl ?_
    refine x_iload dX6_leastExponent_31 5 rfl ?_
    refine x_ishr dX6_leastExponent_33 ?_
    refine x_iconst (v := 1) dX6_leastExponent_34 (by decide) ?_
    refine x_iload_n dX6_leastExponent_35 rfl 3 rfl ?_
    refine x_iconst (v := 1) dX6_leastExponent_36 (by decide) ?_
    refine x_isub dX6_leastExponent_37 ?_
    refine x_ishl dX6_leastExponent_38 ?_
    refine x_icmp_gt (tgt := 45) dX6_leastExponent_39 (by decide) (fun c9 => ?_) (fun c9 => ?_)
    · replace H := ite_p H c9
      obtain ⟨v10, ev10, H⟩ := nm_o H
      refine x_iinc (v := v10) (lv' := [(4, .int v10), (5, .int v8), (0, .int x0), (1, .int x1), (2, .int x2), (3, .int x3)]) dX6_leastExponent_45 5 rfl (by decide) ev10 rfl ?_
      refine x_goto (tgt := 8) dX6_leastExponent_48 (by decide) ?_
      refine Ex.sub [2, 3, 4, 5, 0] rfl ?_
      exact hk8 H
    · replace H := ite_m H c9
      refine x_iload dX6_leastExponent_42 5 rfl ?_
      obtain ⟨rfl, rfl⟩ := so_1 H
      exact x_iret dX6_leastExponent_44 rfl rfl
def f_X6_leastExponent_8 : Nat → Int32 → Int32 → Int32 → Int32 → Int32 → aH → Option (Int32 × aH)
  | 0 => fun _ _ _ _ _ _ => none
  | n + 1 => b_X6_leastExponent_8 (f_X6_leastExponent_8 n)
set_option maxRecDepth 100000 in
set_option maxHeartbeats 4000000 in
theorem t_X6_leastExponent_8 {Γ : gS} {d : Nat} (hd : 2 ≤ d) (n : Nat) : ∀ {x0 : Int32} {x1 : Int32} {x2 : Int32} {x3 : Int32} {x4 : Int32} {h : aH} {r : Int32} {h' : aH}, f_X6_leastExponent_8 n x0 x1 x2 x3 x4 h = some (r, h') → Ex Γ gX6_leastExponent d 8 [(0, .int x0), (1, .int x1), (2, .int x2), (3, .int x3), (4, .int x4)] [] h (some (.int r)) h' := by
  induction n with
  | zero => intro x0 x1 x2 x3 x4 h r h' H; cases H
  | succ n ih => intro x0 x1 x2 x3 x4 h r h' H; exact tb_X6_leastExponent_8 hd ih H
def f_X6_leastExponent (x0 : Int32) (x1 : Int32) (x2 : Int32) (h : aH) : Option (Int32 × aH) :=
  nm (13 - x2) fun (v11 : Int32) =>
  f_X6_leastExponent_8 FU x0 x1 x2 v11 0 h
set_option maxRecDepth 100000 in
set_option maxHeartbeats 4000000 in
theorem t_X6_leastExponent {Γ : gS} {d : Nat} (hd : 2 ≤ d) {x0 : Int32} {x1 : Int32} {x2 : Int32} {h : aH} {r : Int32} {h' : aH} (H : f_X6_leastExponent x0 x1 x2 h = some (r, h')) : Mx Γ gX6_leastExponent d [.int x0, .int x1, .int x2] h (some (.int r)) h' := by
  refine Mx.of (by decide) (Nat.le_of_ble_eq_true rfl) ?_
  unfold f_X6_leastExponent at H
  show Ex Γ gX6_leastExponent d 0 [(0, .int x0), (1, .int x1), (2, .int x2)] [] h (some (.int r)) h'
  obtain ⟨d, rfl⟩ : ∃ e, d = e + 1 := ⟨d - 1, by omega⟩
  refine x_bipush (v := 13) dX6_leastExponent_0 (by decide) ?_
  refine x_iload_n dX6_leastExponent_2 rfl 2 rfl ?_
  refine x_isub dX6_leastExponent_3 ?_
  obtain ⟨v11, ev11, H⟩ := nm_o H
  refine x_istore_n (lv' := [(3, .int v11), (0, .int x0), (1, .int x1), (2, .int x2)]) dX6_leastExponent_4 rfl (by decide) ev11 rfl ?_
  refine x_iconst (v := 0) dX6_leastExponent_5 (by decide) ?_
  refine x_istore (lv' := [(4, .int 0), (3, .int v11), (0, .int x0), (1, .int x1), (2, .int x2)]) dX6_leastExponent_6 (by decide) rfl rfl ?_
  refine Ex.sub [2, 3, 4, 1, 0] rfl ?_
  exact t_X6_leastExponent_8 hd FU H
def f_X6_staysAsAsked_36 (s0 : Int32) (h : aH) : Option (Int32 × aH) :=
  chk (narrow .boolean (.int s0) = .int s0) <|
  some (s0, h)
set_option maxRecDepth 100000 in
set_option maxHeartbeats 4000000 in
theorem t_X6_staysAsAsked_36 {Γ : gS} {d : Nat} (hd : 3 ≤ d) {s0 : Int32} {h : aH} {r : Int32} {h' : aH} (H : f_X6_staysAsAsked_36 s0 h = some (r, h')) : Ex Γ gX6_staysAsAsked d 36 [] [.int s0] h (some (.int r)) h' := by
  unfold f_X6_staysAsAsked_36 at H
  obtain ⟨d, rfl⟩ : ∃ e, d = e + 1 := ⟨d - 1, by omega⟩
  obtain ⟨c1, H⟩ := chk_o H
  obtain ⟨rfl, rfl⟩ := so_1 H
  exact x_iret dX6_staysAsAsked_36 rfl c1
def f_X6_staysAsAsked_35 (h : aH) : Option (Int32 × aH) :=
  f_X6_staysAsAsked_36 0 h
set_option maxRecDepth 100000 in
set_option maxHeartbeats 4000000 in
theorem t_X6_staysAsAsked_35 {Γ : gS} {d : Nat} (hd : 3 ≤ d) {h : aH} {r : Int32} {h' : aH} (H : f_X6_staysAsAsked_35 h = some (r, h')) : Ex Γ gX6_staysAsAsked d 35 [] [] h (some (.int r)) h' := by
  unfold f_X6_staysAsAsked_35 at H
  obtain ⟨d, rfl⟩ : ∃ e, d = e + 1 := ⟨d - 1, by omega⟩
  refine x_iconst (v := 0) dX6_staysAsAsked_35 (by decide) ?_
  exact t_X6_staysAsAsked_36 hd H
def f_X6_staysAsAsked (x0 : Int32) (x1 : Int32) (x2 : Int32) (h : aH) : Option (Int32 × aH) :=
  bd (f_X6_leastExponent x0 (x0 + x1) x2 h) fun v2 h3 =>
  bd (f_X6_down x0 v2 h3) fun v5 h6 =>
  if v5 = x0 then
    bd (f_X6_up (x0 + x1) v2 h6) fun v9 h10 =>
    if v9 = (x0 + x1) then
      f_X6_staysAsAsked_36 1 h10
    else
      f_X6_staysAsAsked_35 h10
  else
    f_X6_staysAsAsked_35 h6
set_option maxRecDepth 100000 in
set_option maxHeartbeats 4000000 in
theorem t_X6_staysAsAsked {Γ : gS} {d : Nat} (hd : 3 ≤ d) {x0 : Int32} {x1 : Int32} {x2 : Int32} {h : aH} {r : Int32} {h' : aH} (H : f_X6_staysAsAsked x0 x1 x2 h = some (r, h')) : Mx Γ gX6_staysAsAsked d [.int x0, .int x1, .int x2] h (some (.int r)) h' := by
  refine Mx.of (by decide) (Nat.le_of_ble_eq_true rfl) ?_
  unfold f_X6_staysAsAsked at H
  show Ex Γ gX6_staysAsAsked d 0 [(0, .int x0), (1, .int x1), (2, .int x2)] [] h (some (.int r)) h'
  obtain ⟨d, rfl⟩ : ∃ e, d = e + 1 := ⟨d - 1, by omega⟩
  refine x_iload_n dX6_staysAsAsked_0 rfl 0 rfl ?_
  refine x_iload_n dX6_staysAsAsked_1 rfl 0 rfl ?_
  refine x_iload_n dX6_staysAsAsked_2 rfl 1 rfl ?_
  refine x_iadd dX6_staysAsAsked_3 ?_
  refine x_iload_n dX6_staysAsAsked_4 rfl 2 rfl ?_
  obtain ⟨v2, h3, hc4, H⟩ := bd_o H
  refine x_callSi (As := [.int x0, .int (x0 + x1), .int x2]) dX6_staysAsAsked_5 mi_X6_leastExponent lk_X6_44 sm_X6_leastExponent rfl rfl (Nat.le_of_ble_eq_true rfl) (t_X6_leastExponent (by omega) hc4) ?_
  refine x_istore_n (lv' := [(3, .int v2), (0, .int x0), (1, .int x1), (2, .int x2)]) dX6_staysAsAsked_8 rfl (by decide) rfl rfl ?_
  refine x_iload_n dX6_staysAsAsked_9 rfl 1 rfl ?_
  refine x_iload_n dX6_staysAsAsked_10 rfl 0 rfl ?_
  obtain ⟨v5, h6, hc7, H⟩ := bd_o H
  refine x_callSi (As := [.int x0, .int v2]) dX6_staysAsAsked_11 mi_X6_down lk_X6_41 sm_X6_down rfl rfl (Nat.le_of_ble_eq_true rfl) (t_X6_down (by omega) hc7) ?_
  refine x_iload_n dX6_staysAsAsked_14 rfl 1 rfl ?_
  refine x_icmp_ne (tgt := 35) dX6_staysAsAsked_15 (by decide) (fun c8 => ?_) (fun c8 => ?_)
  · replace H := ite_m H c8
    refine Ex.sub [] rfl ?_
    exact t_X6_staysAsAsked_35 hd H
  · replace H := ite_p H c8
    refine x_iload_n dX6_staysAsAsked_18 rfl 1 rfl ?_
    refine x_iload_n dX6_staysAsAsked_19 rfl 2 rfl ?_
    refine x_iadd dX6_staysAsAsked_20 ?_
    refine x_iload_n dX6_staysAsAsked_21 rfl 0 rfl ?_
    obtain ⟨v9, h10, hc11, H⟩ := bd_o H
    refine x_callSi (As := [.int (x0 + x1), .int v2]) dX6_staysAsAsked_22 mi_X6_up lk_X6_37 sm_X6_up rfl rfl (Nat.le_of_ble_eq_true rfl) (t_X6_up (by omega) hc11) ?_
    refine x_iload_n dX6_staysAsAsked_25 rfl 1 rfl ?_
    refine x_iload_n dX6_staysAsAsked_26 rfl 2 rfl ?_
    refine x_iadd dX6_staysAsAsked_27 ?_
    refine x_icmp_ne (tgt := 35) dX6_staysAsAsked_28 (by decide) (fun c12 => ?_) (fun c12 => ?_)
    · replace H := ite_m H c12
      refine Ex.sub [] rfl ?_
      exact t_X6_staysAsAsked_35 hd H
    · replace H := ite_p H c12
      refine x_iconst (v := 1) dX6_staysAsAsked_31 (by decide) ?_
      refine x_goto (tgt := 36) dX6_staysAsAsked_32 (by decide) ?_
      refine Ex.sub [] rfl ?_
      exact t_X6_staysAsAsked_36 hd H
def f_X6_baseFrom_56 (x0 : Nat) (x1 : Int32) (x2 : Int32) (s0 : Int32) (s1 : Int32) (h : aH) : Option (Int32 × aH) :=
  nm (s0 - s1) fun (v1 : Int32) =>
  ko h x0 6 <|
  nm ((hI h x0 3) + x2) fun (v3 : Int32) =>
  nm (((x1 >>> (v3 &&& 31)) + v1) <<< (v3 &&& 31)) fun (v4 : Int32) =>
  some ((v4 + ((hI h x0 4) <<< ((hI h x0 3) &&& 31))) &&& 4095, h)
set_option maxRecDepth 100000 in
set_option maxHeartbeats 4000000 in
theorem t_X6_baseFrom_56 {Γ : gS} {d : Nat} (hd : 0 ≤ d) {x0 : Nat} {x1 : Int32} {x2 : Int32} {s0 : Int32} {s1 : Int32} {h : aH} {r : Int32} {h' : aH} (H : f_X6_baseFrom_56 x0 x1 x2 s0 s1 h = some (r, h')) : Ex Γ gX6_baseFrom d 56 [(0, .ref x0), (1, .int x1), (2, .int x2)] [.int s1, .int s0] h (some (.int r)) h' := by
  unfold f_X6_baseFrom_56 at H
  refine x_isub dX6_baseFrom_56 ?_
  obtain ⟨v1, ev1, H⟩ := nm_o H
  refine x_istore (lv' := [(6, .int v1), (0, .ref x0), (1, .int x1), (2, .int x2)]) dX6_baseFrom_57 (by decide) ev1 rfl ?_
  refine x_aload_n dX6_baseFrom_59 rfl 1 rfl ?_
  obtain ⟨c2, H⟩ := ko_o H
  refine x_getI fr_X6_22 dX6_baseFrom_60 c2 rfl ?_
  refine x_iload_n dX6_baseFrom_63 rfl 3 rfl ?_
  refine x_iadd dX6_baseFrom_64 ?_
  obtain ⟨v3, ev3, H⟩ := nm_o H
  refine x_istore (lv' := [(7, .int v3), (6, .int v1), (0, .ref x0), (1, .int x1), (2, .int x2)]) dX6_baseFrom_65 (by decide) ev3 rfl ?_
  refine x_iload_n dX6_baseFrom_67 rfl 3 rfl ?_
  refine x_iload dX6_baseFrom_68 0 rfl ?_
  refine x_ishr dX6_baseFrom_70 ?_
  refine x_iload dX6_baseFrom_71 1 rfl ?_
  refine x_iadd dX6_baseFrom_73 ?_
  refine x_iload dX6_baseFrom_74 0 rfl ?_
  refine x_ishl dX6_baseFrom_76 ?_
  obtain ⟨v4, ev4, H⟩ := nm_o H
  refine x_istore (lv' := [(8, .int v4), (7, .int v3), (6, .int v1), (0, .ref x0), (1, .int x1), (2, .int x2)]) dX6_baseFrom_77 (by decide) ev4 rfl ?_
  refine x_iload dX6_baseFrom_79 0 rfl ?_
  refine x_aload_n dX6_baseFrom_81 rfl 3 rfl ?_
  refine x_getI fr_X6_25 dX6_baseFrom_82 c2 rfl ?_
  refine x_aload_n dX6_baseFrom_85 rfl 3 rfl ?_
  refine x_getI fr_X6_22 dX6_baseFrom_86 c2 rfl ?_
  refine x_ishl dX6_baseFrom_89 ?_
  refine x_iadd dX6_baseFrom_90 ?_
  refine x_sipush (v := 4095) dX6_baseFrom_91 (by decide) ?_
  refine x_iand dX6_baseFrom_94 ?_
  obtain ⟨rfl, rfl⟩ := so_1 H
  exact x_iret dX6_baseFrom_95 rfl rfl
def f_X6_baseFrom_44 (x0 : Nat) (x1 : Int32) (x2 : Int32) (x4 : Int32) (x5 : Int32) (s0 : Int32) (h : aH) : Option (Int32 × aH) :=
  if x5 ≤ x4 then
    f_X6_baseFrom_56 x0 x1 x2 s0 0 h
  else
    f_X6_baseFrom_56 x0 x1 x2 s0 1 h
set_option maxRecDepth 100000 in
set_option maxHeartbeats 4000000 in
theorem t_X6_baseFrom_44 {Γ : gS} {d : Nat} (hd : 0 ≤ d) {x0 : Nat} {x1 : Int32} {x2 : Int32} {x4 : Int32} {x5 : Int32} {s0 : Int32} {h : aH} {r : Int32} {h' : aH} (H : f_X6_baseFrom_44 x0 x1 x2 x4 x5 s0 h = some (r, h')) : Ex Γ gX6_baseFrom d 44 [(0, .ref x0), (1, .int x1), (2, .int x2), (4, .int x4), (5, .int x5)] [.int s0] h (some (.int r)) h' := by
  unfold f_X6_baseFrom_44 at H
  refine x_iload dX6_baseFrom_44 3 rfl ?_
  refine x_iload dX6_baseFrom_46 4 rfl ?_
  refine x_icmp_ge (tgt := 55) dX6_baseFrom_48 (by decide) (fun c5 => ?_) (fun c5 => ?_)
  · replace H := ite_p H c5
    refine x_iconst (v := 0) dX6_baseFrom_55 (by decide) ?_
    refine Ex.sub [0, 1, 2] rfl ?_
    exact t_X6_baseFrom_56 hd H
  · replace H := ite_m H c5
    refine x_iconst (v := 1) dX6_baseFrom_51 (by decide) ?_
    refine x_goto (tgt := 56) dX6_baseFrom_52 (by decide) ?_
    refine Ex.sub [0, 1, 2] rfl ?_
    exact t_X6_baseFrom_56 hd H
def f_X6_baseFrom (x0 : Nat) (x1 : Int32) (x2 : Int32) (h : aH) : Option (Int32 × aH) :=
  nm ((1 <<< (x2 &&& 31)) - 1) fun (v6 : Int32) =>
  ko h x0 6 <|
  nm ((x1 >>> ((hI h x0 3) &&& 31)) &&& v6) fun (v8 : Int32) =>
  nm (((hI h x0 4) - (1 <<< ((x2 - 2) &&& 31))) &&& v6) fun (v9 : Int32) =>
  if v9 ≤ (hI h x0 4) then
    f_X6_baseFrom_44 x0 x1 x2 v8 v9 0 h
  else
    f_X6_baseFrom_44 x0 x1 x2 v8 v9 1 h
set_option maxRecDepth 100000 in
set_option maxHeartbeats 4000000 in
theorem t_X6_baseFrom {Γ : gS} {d : Nat} (hd : 0 ≤ d) {x0 : Nat} {x1 : Int32} {x2 : Int32} {h : aH} {r : Int32} {h' : aH} (H : f_X6_baseFrom x0 x1 x2 h = some (r, h')) : Mx Γ gX6_baseFrom d [.ref x0, .int x1, .int x2] h (some (.int r)) h' := by
  refine Mx.of (by decide) (Nat.le_of_ble_eq_true rfl) ?_
  unfold f_X6_baseFrom at H
  show Ex Γ gX6_baseFrom d 0 [(0, .ref x0), (1, .int x1), (2, .int x2)] [] h (some (.int r)) h'
  refine x_iconst (v := 1) dX6_baseFrom_0 (by decide) ?_
  refine x_iload_n dX6_baseFrom_1 rfl 2 rfl ?_
  refine x_ishl dX6_baseFrom_2 ?_
  refine x_iconst (v := 1) dX6_baseFrom_3 (by decide) ?_
  refine x_isub dX6_baseFrom_4 ?_
  obtain ⟨v6, ev6, H⟩ := nm_o H
  refine x_istore_n (lv' := [(3, .int v6), (0, .ref x0), (1, .int x1), (2, .int x2)]) dX6_baseFrom_5 rfl (by decide) ev6 rfl ?_
  refine x_iload_n dX6_baseFrom_6 rfl 2 rfl ?_
  refine x_aload_n dX6_baseFrom_7 rfl 1 rfl ?_
  obtain ⟨c7, H⟩ := ko_o H
  refine x_getI fr_X6_22 dX6_baseFrom_8 c7 rfl ?_
  refine x_ishr dX6_baseFrom_11 ?_
  refine x_iload_n dX6_baseFrom_12 rfl 0 rfl ?_
  refine x_iand dX6_baseFrom_13 ?_
  obtain ⟨v8, ev8, H⟩ := nm_o H
  refine x_istore (lv' := [(4, .int v8), (3, .int v6), (0, .ref x0), (1, .int x1), (2, .int x2)]) dX6_baseFrom_14 (by decide) ev8 rfl ?_
  refine x_aload_n dX6_baseFrom_16 rfl 2 rfl ?_
  refine x_getI fr_X6_25 dX6_baseFrom_17 c7 rfl ?_
  refine x_iconst (v := 1) dX6_baseFrom_20 (by decide) ?_
  refine x_iload_n dX6_baseFrom_21 rfl 4 rfl ?_
  refine x_iconst (v := 2) dX6_baseFrom_22 (by decide) ?_
  refine x_isub dX6_baseFrom_23 ?_
  refine x_ishl dX6_baseFrom_24 ?_
  refine x_isub dX6_baseFrom_25 ?_
  refine x_iload_n dX6_baseFrom_26 rfl 1 rfl ?_
  refine x_iand dX6_baseFrom_27 ?_
  obtain ⟨v9, ev9, H⟩ := nm_o H
  refine x_istore (lv' := [(5, .int v9), (4, .int v8), (3, .int v6), (0, .ref x0), (1, .int x1), (2, .int x2)]) dX6_baseFrom_28 (by decide) ev9 rfl ?_
  refine x_aload_n dX6_baseFrom_30 rfl 3 rfl ?_
  refine x_getI fr_X6_25 dX6_baseFrom_31 c7 rfl ?_
  refine x_iload dX6_baseFrom_34 0 rfl ?_
  refine x_icmp_ge (tgt := 43) dX6_baseFrom_36 (by decide) (fun c10 => ?_) (fun c10 => ?_)
  · replace H := ite_p H c10
    refine x_iconst (v := 0) dX6_baseFrom_43 (by decide) ?_
    refine Ex.sub [3, 4, 5, 1, 0] rfl ?_
    exact t_X6_baseFrom_44 hd H
  · replace H := ite_m H c10
    refine x_iconst (v := 1) dX6_baseFrom_39 (by decide) ?_
    refine x_goto (tgt := 44) dX6_baseFrom_40 (by decide) ?_
    refine Ex.sub [3, 4, 5, 1, 0] rfl ?_
    exact t_X6_baseFrom_44 hd H
def f_X6_base (x0 : Nat) (x1 : Int32) (h : aH) : Option (Int32 × aH) :=
  ko h x0 6 <|
  bd (f_X6_baseFrom x0 (hI h x0 2) x1 h) fun v2 h3 =>
  some (v2, h3)
set_option maxRecDepth 100000 in
set_option maxHeartbeats 4000000 in
theorem t_X6_base {Γ : gS} {d : Nat} (hd : 1 ≤ d) {x0 : Nat} {x1 : Int32} {h : aH} {r : Int32} {h' : aH} (H : f_X6_base x0 x1 h = some (r, h')) : Mx Γ gX6_base d [.ref x0, .int x1] h (some (.int r)) h' := by
  refine Mx.of (by decide) (Nat.le_of_ble_eq_true rfl) ?_
  unfold f_X6_base at H
  show Ex Γ gX6_base d 0 [(0, .ref x0), (1, .int x1)] [] h (some (.int r)) h'
  obtain ⟨d, rfl⟩ : ∃ e, d = e + 1 := ⟨d - 1, by omega⟩
  refine x_aload_n dX6_base_0 rfl 0 rfl ?_
  refine x_aload_n dX6_base_1 rfl 0 rfl ?_
  obtain ⟨c1, H⟩ := ko_o H
  refine x_getI fr_X6_18 dX6_base_2 c1 rfl ?_
  refine x_iload_n dX6_base_5 rfl 1 rfl ?_
  obtain ⟨v2, h3, hc4, H⟩ := bd_o H
  refine x_callVi (As := [.int (hI h x0 2), .int x1]) (q := (RX6, TX6, 8)) dX6_base_6 mi_X6_baseFrom lk_X6_48 im_X6_baseFrom se_X6_baseFrom rfl c1 rfl rfl (Nat.le_of_ble_eq_true rfl) (t_X6_baseFrom (by omega) hc4) ?_
  obtain ⟨rfl, rfl⟩ := so_1 H
  exact x_iret dX6_base_9 rfl rfl
def f_X6_extent (x0 : Nat) (x1 : Int32) (h : aH) : Option (Int32 × aH) :=
  ko h x0 6 <|
  some ((((hI h x0 5) - (hI h x0 4)) &&& ((1 <<< (x1 &&& 31)) - 1)) <<< ((hI h x0 3) &&& 31), h)
set_option maxRecDepth 100000 in
set_option maxHeartbeats 4000000 in
theorem t_X6_extent {Γ : gS} {d : Nat} (hd : 0 ≤ d) {x0 : Nat} {x1 : Int32} {h : aH} {r : Int32} {h' : aH} (H : f_X6_extent x0 x1 h = some (r, h')) : Mx Γ gX6_extent d [.ref x0, .int x1] h (some (.int r)) h' := by
  refine Mx.of (by decide) (Nat.le_of_ble_eq_true rfl) ?_
  unfold f_X6_extent at H
  show Ex Γ gX6_extent d 0 [(0, .ref x0), (1, .int x1)] [] h (some (.int r)) h'
  refine x_aload_n dX6_extent_0 rfl 0 rfl ?_
  obtain ⟨c1, H⟩ := ko_o H
  refine x_getI fr_X6_28 dX6_extent_1 c1 rfl ?_
  refine x_aload_n dX6_extent_4 rfl 0 rfl ?_
  refine x_getI fr_X6_25 dX6_extent_5 c1 rfl ?_
  refine x_isub dX6_extent_8 ?_
  refine x_iconst (v := 1) dX6_extent_9 (by decide) ?_
  refine x_iload_n dX6_extent_10 rfl 1 rfl ?_
  refine x_ishl dX6_extent_11 ?_
  refine x_iconst (v := 1) dX6_extent_12 (by decide) ?_
  refine x_isub dX6_extent_13 ?_
  refine x_iand dX6_extent_14 ?_
  refine x_aload_n dX6_extent_15 rfl 0 rfl ?_
  refine x_getI fr_X6_22 dX6_extent_16 c1 rfl ?_
  refine x_ishl dX6_extent_19 ?_
  obtain ⟨rfl, rfl⟩ := so_1 H
  exact x_iret dX6_extent_20 rfl rfl
def f_X6_covers_27 (s0 : Int32) (h : aH) : Option (Int32 × aH) :=
  chk (narrow .boolean (.int s0) = .int s0) <|
  some (s0, h)
set_option maxRecDepth 100000 in
set_option maxHeartbeats 4000000 in
theorem t_X6_covers_27 {Γ : gS} {d : Nat} (hd : 2 ≤ d) {s0 : Int32} {h : aH} {r : Int32} {h' : aH} (H : f_X6_covers_27 s0 h = some (r, h')) : Ex Γ gX6_covers d 27 [] [.int s0] h (some (.int r)) h' := by
  unfold f_X6_covers_27 at H
  obtain ⟨d, rfl⟩ : ∃ e, d = e + 1 := ⟨d - 1, by omega⟩
  obtain ⟨c1, H⟩ := chk_o H
  obtain ⟨rfl, rfl⟩ := so_1 H
  exact x_iret dX6_covers_27 rfl c1
def f_X6_covers_26 (h : aH) : Option (Int32 × aH) :=
  f_X6_covers_27 0 h
set_option maxRecDepth 100000 in
set_option maxHeartbeats 4000000 in
theorem t_X6_covers_26 {Γ : gS} {d : Nat} (hd : 2 ≤ d) {h : aH} {r : Int32} {h' : aH} (H : f_X6_covers_26 h = some (r, h')) : Ex Γ gX6_covers d 26 [] [] h (some (.int r)) h' := by
  unfold f_X6_covers_26 at H
  obtain ⟨d, rfl⟩ : ∃ e, d = e + 1 := ⟨d - 1, by omega⟩
  refine x_iconst (v := 0) dX6_covers_26 (by decide) ?_
  exact t_X6_covers_27 hd H
def f_X6_covers (x0 : Nat) (x1 : Int32) (x2 : Int32) (h : aH) : Option (Int32 × aH) :=
  ko h x0 6 <|
  bd (f_X6_base x0 x2 h) fun v2 h3 =>
  if x1 < v2 then
    f_X6_covers_26 h3
  else
    ko h3 x0 6 <|
    bd (f_X6_extent x0 x2 h3) fun v6 h7 =>
    if (v2 + v6) ≤ x1 then
      f_X6_covers_26 h7
    else
      f_X6_covers_27 1 h7
set_option maxRecDepth 100000 in
set_option maxHeartbeats 4000000 in
theorem t_X6_covers {Γ : gS} {d : Nat} (hd : 2 ≤ d) {x0 : Nat} {x1 : Int32} {x2 : Int32} {h : aH} {r : Int32} {h' : aH} (H : f_X6_covers x0 x1 x2 h = some (r, h')) : Mx Γ gX6_covers d [.ref x0, .int x1, .int x2] h (some (.int r)) h' := by
  refine Mx.of (by decide) (Nat.le_of_ble_eq_true rfl) ?_
  unfold f_X6_covers at H
  show Ex Γ gX6_covers d 0 [(0, .ref x0), (1, .int x1), (2, .int x2)] [] h (some (.int r)) h'
  obtain ⟨d, rfl⟩ : ∃ e, d = e + 1 := ⟨d - 1, by omega⟩
  refine x_aload_n dX6_covers_0 rfl 0 rfl ?_
  refine x_iload_n dX6_covers_1 rfl 2 rfl ?_
  obtain ⟨c11, H⟩ := ko_o H
  obtain ⟨v2, h3, hc4, H⟩ := bd_o H
  refine x_callVi (As := [.int x2]) (q := (RX6, TX6, 8)) dX6_covers_2 mi_X6_base lk_X6_51 im_X6_base se_X6_base rfl c11 rfl rfl (Nat.le_of_ble_eq_true rfl) (t_X6_base (by omega) hc4) ?_
  refine x_istore_n (lv' := [(3, .int v2), (0, .ref x0), (1, .int x1), (2, .int x2)]) dX6_covers_5 rfl (by decide) rfl rfl ?_
  refine x_iload_n dX6_covers_6 rfl 2 rfl ?_
  refine x_iload_n dX6_covers_7 rfl 0 rfl ?_
  refine x_icmp_lt (tgt := 26) dX6_covers_8 (by decide) (fun c5 => ?_) (fun c5 => ?_)
  · replace H := ite_p H c5
    refine Ex.sub [] rfl ?_
    exact t_X6_covers_26 hd H
  · replace H := ite_m H c5
    refine x_iload_n dX6_covers_11 rfl 2 rfl ?_
    refine x_iload_n dX6_covers_12 rfl 0 rfl ?_
    refine x_aload_n dX6_covers_13 rfl 1 rfl ?_
    refine x_iload_n dX6_covers_14 rfl 3 rfl ?_
    obtain ⟨c10, H⟩ := ko_o H
    obtain ⟨v6, h7, hc8, H⟩ := bd_o H
    refine x_callVi (As := [.int x2]) (q := (RX6, TX6, 8)) dX6_covers_15 mi_X6_extent lk_X6_55 im_X6_extent se_X6_extent rfl c10 rfl rfl (Nat.le_of_ble_eq_true rfl) (t_X6_extent (by omega) hc8) ?_
    refine x_iadd dX6_covers_18 ?_
    refine x_icmp_ge (tgt := 26) dX6_covers_19 (by decide) (fun c9 => ?_) (fun c9 => ?_)
    · replace H := ite_p H c9
      refine Ex.sub [] rfl ?_
      exact t_X6_covers_26 hd H
    · replace H := ite_m H c9
      refine x_iconst (v := 1) dX6_covers_22 (by decide) ?_
      refine x_goto (tgt := 27) dX6_covers_23 (by decide) ?_
      refine Ex.sub [] rfl ?_
      exact t_X6_covers_27 hd H
def f_X6_tell_107 (h : aH) : Option (Int32 × aH) :=
  some ((-1), h)
set_option maxRecDepth 100000 in
set_option maxHeartbeats 4000000 in
theorem t_X6_tell_107 {Γ : gS} {d : Nat} (hd : 2 ≤ d) {h : aH} {r : Int32} {h' : aH} (H : f_X6_tell_107 h = some (r, h')) : Ex Γ gX6_tell d 107 [] [] h (some (.int r)) h' := by
  unfold f_X6_tell_107 at H
  obtain ⟨d, rfl⟩ : ∃ e, d = e + 1 := ⟨d - 1, by omega⟩
  refine x_iconst (v := (-1)) dX6_tell_107 (by decide) ?_
  obtain ⟨rfl, rfl⟩ := so_1 H
  exact x_iret dX6_tell_108 rfl rfl
def f_X6_tell_64 (s0 : Int32) (h : aH) : Option (Int32 × aH) :=
  some (s0, h)
set_option maxRecDepth 100000 in
set_option maxHeartbeats 4000000 in
theorem t_X6_tell_64 {Γ : gS} {d : Nat} (hd : 2 ≤ d) {s0 : Int32} {h : aH} {r : Int32} {h' : aH} (H : f_X6_tell_64 s0 h = some (r, h')) : Ex Γ gX6_tell d 64 [] [.int s0] h (some (.int r)) h' := by
  unfold f_X6_tell_64 at H
  obtain ⟨d, rfl⟩ : ∃ e, d = e + 1 := ⟨d - 1, by omega⟩
  obtain ⟨rfl, rfl⟩ := so_1 H
  exact x_iret dX6_tell_64 rfl rfl
def f_X6_tell (x0 : Nat) (x1 : Int32) (x2 : Int32) (h : aH) : Option (Int32 × aH) :=
  if x1 < 0 then
    f_X6_tell_107 h
  else
  if 8 < x1 then
    f_X6_tell_107 h
  else
  if x1 = 0 then
    ko h x0 6 <|
    if (hI h x0 1) = 0 then
      f_X6_tell_64 0 h
    else
      f_X6_tell_64 1 h
  else
  if x1 = 1 then
    ko h x0 6 <|
    some (hI h x0 2, h)
  else
  if x1 = 2 then
    ko h x0 6 <|
    bd (f_X6_base x0 x2 h) fun v9 h10 =>
    some (v9, h10)
  else
  if x1 = 3 then
    ko h x0 6 <|
    bd (f_X6_extent x0 x2 h) fun v14 h15 =>
    some (v14, h15)
  else
  if x1 = 4 then
    ko h x0 6 <|
    some (hI h x0 3, h)
  else
  if x1 = 5 then
    ko h x0 6 <|
    some (hI h x0 4, h)
  else
  if x1 = 6 then
    ko h x0 6 <|
    some (hI h x0 5, h)
  else
  if x1 = 7 then
    ko h x0 6 <|
    some (hI h x0 6, h)
  else
  if x1 = 8 then
    ko h x0 6 <|
    some (hI h x0 7, h)
  else
  none
set_option maxRecDepth 100000 in
set_option maxHeartbeats 4000000 in
theorem t_X6_tell {Γ : gS} {d : Nat} (hd : 2 ≤ d) {x0 : Nat} {x1 : Int32} {x2 : Int32} {h : aH} {r : Int32} {h' : aH} (H : f_X6_tell x0 x1 x2 h = some (r, h')) : Mx Γ gX6_tell d [.ref x0, .int x1, .int x2] h (some (.int r)) h' := by
  refine Mx.of (by decide) (Nat.le_of_ble_eq_true rfl) ?_
  unfold f_X6_tell at H
  show Ex Γ gX6_tell d 0 [(0, .ref x0), (1, .int x1), (2, .int x2)] [] h (some (.int r)) h'
  obtain ⟨d, rfl⟩ : ∃ e, d = e + 1 := ⟨d - 1, by omega⟩
  refine x_iload_n dX6_tell_0 rfl 1 rfl ?_
  by_cases c1 : x1 < 0
  · replace H := ite_p H c1
    refine x_tableOut (tgt := 107) dX6_tell_1 (Or.inl (sw_lo c1 (by decide))) (by decide) ?_
    refine Ex.sub [] rfl ?_
    exact t_X6_tell_107 hd H
  replace H := ite_m H c1
  by_cases c2 : 8 < x1
  · replace H := ite_p H c2
    refine x_tableOut (tgt := 107) dX6_tell_1 (Or.inr (sw_hi c2 (by decide))) (by decide) ?_
    refine Ex.sub [] rfl ?_
    exact t_X6_tell_107 hd H
  replace H := ite_m H c2
  by_cases c3 : x1 = 0
  · replace H := ite_p H c3
    refine x_tableIn (tgt := 52) dX6_tell_1 (by rw [c3]; decide) (by rw [c3]; decide) (by rw [c3]; rfl) (by decide) ?_
    refine x_aload_n dX6_tell_52 rfl 0 rfl ?_
    obtain ⟨c4, H⟩ := ko_o H
    refine x_getI fr_X6_15 dX6_tell_53 c4 rfl ?_
    refine x_if_eq (tgt := 63) dX6_tell_56 (by decide) (fun c5 => ?_) (fun c5 => ?_)
    · replace H := ite_p H c5
      refine x_iconst (v := 0) dX6_tell_63 (by decide) ?_
      refine Ex.sub [] rfl ?_
      exact t_X6_tell_64 hd H
    · replace H := ite_m H c5
      refine x_iconst (v := 1) dX6_tell_59 (by decide) ?_
      refine x_goto (tgt := 64) dX6_tell_60 (by decide) ?_
      refine Ex.sub [] rfl ?_
      exact t_X6_tell_64 hd H
  replace H := ite_m H c3
  by_cases c6 : x1 = 1
  · replace H := ite_p H c6
    refine x_tableIn (tgt := 65) dX6_tell_1 (by rw [c6]; decide) (by rw [c6]; decide) (by rw [c6]; rfl) (by decide) ?_
    refine x_aload_n dX6_tell_65 rfl 0 rfl ?_
    obtain ⟨c7, H⟩ := ko_o H
    refine x_getI fr_X6_18 dX6_tell_66 c7 rfl ?_
    obtain ⟨rfl, rfl⟩ := so_1 H
    exact x_iret dX6_tell_69 rfl rfl
  replace H := ite_m H c6
  by_cases c8 : x1 = 2
  · replace H := ite_p H c8
    refine x_tableIn (tgt := 70) dX6_tell_1 (by rw [c8]; decide) (by rw [c8]; decide) (by rw [c8]; rfl) (by decide) ?_
    refine x_aload_n dX6_tell_70 rfl 0 rfl ?_
    refine x_iload_n dX6_tell_71 rfl 2 rfl ?_
    obtain ⟨c12, H⟩ := ko_o H
    obtain ⟨v9, h10, hc11, H⟩ := bd_o H
    refine x_callVi (As := [.int x2]) (q := (RX6, TX6, 8)) dX6_tell_72 mi_X6_base lk_X6_51 im_X6_base se_X6_base rfl c12 rfl rfl (Nat.le_of_ble_eq_true rfl) (t_X6_base (by omega) hc11) ?_
    obtain ⟨rfl, rfl⟩ := so_1 H
    exact x_iret dX6_tell_75 rfl rfl
  replace H := ite_m H c8
  by_cases c13 : x1 = 3
  · replace H := ite_p H c13
    refine x_tableIn (tgt := 76) dX6_tell_1 (by rw [c13]; decide) (by rw [c13]; decide) (by rw [c13]; rfl) (by decide) ?_
    refine x_aload_n dX6_tell_76 rfl 0 rfl ?_
    refine x_iload_n dX6_tell_77 rfl 2 rfl ?_
    obtain ⟨c17, H⟩ := ko_o H
    obtain ⟨v14, h15, hc16, H⟩ := bd_o H
    refine x_callVi (As := [.int x2]) (q := (RX6, TX6, 8)) dX6_tell_78 mi_X6_extent lk_X6_55 im_X6_extent se_X6_extent rfl c17 rfl rfl (Nat.le_of_ble_eq_true rfl) (t_X6_extent (by omega) hc16) ?_
    obtain ⟨rfl, rfl⟩ := so_1 H
    exact x_iret dX6_tell_81 rfl rfl
  replace H := ite_m H c13
  by_cases c18 : x1 = 4
  · replace H := ite_p H c18
    refine x_tableIn (tgt := 82) dX6_tell_1 (by rw [c18]; decide) (by rw [c18]; decide) (by rw [c18]; rfl) (by decide) ?_
    refine x_aload_n dX6_tell_82 rfl 0 rfl ?_
    obtain ⟨c19, H⟩ := ko_o H
    refine x_getI fr_X6_22 dX6_tell_83 c19 rfl ?_
    obtain ⟨rfl, rfl⟩ := so_1 H
    exact x_iret dX6_tell_86 rfl rfl
  replace H := ite_m H c18
  by_cases c20 : x1 = 5
  · replace H := ite_p H c20
    refine x_tableIn (tgt := 87) dX6_tell_1 (by rw [c20]; decide) (by rw [c20]; decide) (by rw [c20]; rfl) (by decide) ?_
    refine x_aload_n dX6_tell_87 rfl 0 rfl ?_
    obtain ⟨c21, H⟩ := ko_o H
    refine x_getI fr_X6_25 dX6_tell_88 c21 rfl ?_
    obtain ⟨rfl, rfl⟩ := so_1 H
    exact x_iret dX6_tell_91 rfl rfl
  replace H := ite_m H c20
  by_cases c22 : x1 = 6
  · replace H := ite_p H c22
    refine x_tableIn (tgt := 92) dX6_tell_1 (by rw [c22]; decide) (by rw [c22]; decide) (by rw [c22]; rfl) (by decide) ?_
    refine x_aload_n dX6_tell_92 rfl 0 rfl ?_
    obtain ⟨c23, H⟩ := ko_o H
    refine x_getI fr_X6_28 dX6_tell_93 c23 rfl ?_
    obtain ⟨rfl, rfl⟩ := so_1 H
    exact x_iret dX6_tell_96 rfl rfl
  replace H := ite_m H c22
  by_cases c24 : x1 = 7
  · replace H := ite_p H c24
    refine x_tableIn (tgt := 97) dX6_tell_1 (by rw [c24]; decide) (by rw [c24]; decide) (by rw [c24]; rfl) (by decide) ?_
    refine x_aload_n dX6_tell_97 rfl 0 rfl ?_
    obtain ⟨c25, H⟩ := ko_o H
    refine x_getI fr_X6_31 dX6_tell_98 c25 rfl ?_
    obtain ⟨rfl, rfl⟩ := so_1 H
    exact x_iret dX6_tell_101 rfl rfl
  replace H := ite_m H c24
  by_cases c26 : x1 = 8
  · replace H := ite_p H c26
    refine x_tableIn (tgt := 102) dX6_tell_1 (by rw [c26]; decide) (by rw [c26]; decide) (by rw [c26]; rfl) (by decide) ?_
    refine x_aload_n dX6_tell_102 rfl 0 rfl ?_
    obtain ⟨c27, H⟩ := ko_o H
    refine x_getI fr_X6_34 dX6_tell_103 c27 rfl ?_
    obtain ⟨rfl, rfl⟩ := so_1 H
    exact x_iret dX6_tell_106 rfl rfl
  replace H := ite_m H c26
  cases H
def f_X6_carry (x0 : Nat) (x1 : Int32) (x2 : Int32) (x3 : Int32) (h : aH) : Option (Unit × aH) :=
  nm ((1 <<< (x3 &&& 31)) - 1) fun (v1 : Int32) =>
  bd (f_X6_leastExponent x1 (x1 + x2) x3 h) fun v2 h3 =>
  ko h3 x0 6 <|
  bd (f_X6_down x1 (hI (sI h3 x0 3 v2) x0 3) (sI h3 x0 3 v2)) fun v6 h7 =>
  ko h7 x0 6 <|
  bd (f_X6_up (x1 + x2) (hI (sI h7 x0 4 ((v6 >>> ((hI h7 x0 3) &&& 31)) &&& v1)) x0 3) (sI h7 x0 4 ((v6 >>> ((hI h7 x0 3) &&& 31)) &&& v1))) fun v10 h11 =>
  ko h11 x0 6 <|
  some ((), sI h11 x0 5 ((v10 >>> ((hI h11 x0 3) &&& 31)) &&& v1))
set_option maxRecDepth 100000 in
set_option maxHeartbeats 4000000 in
theorem t_X6_carry {Γ : gS} {d : Nat} (hd : 3 ≤ d) {x0 : Nat} {x1 : Int32} {x2 : Int32} {x3 : Int32} {h : aH} {r : Unit} {h' : aH} (H : f_X6_carry x0 x1 x2 x3 h = some (r, h')) : Mx Γ gX6_carry d [.ref x0, .int x1, .int x2, .int x3] h none h' := by
  refine Mx.of (by decide) (Nat.le_of_ble_eq_true rfl) ?_
  unfold f_X6_carry at H
  show Ex Γ gX6_carry d 0 [(0, .ref x0), (1, .int x1), (2, .int x2), (3, .int x3)] [] h none h'
  obtain ⟨d, rfl⟩ : ∃ e, d = e + 1 := ⟨d - 1, by omega⟩
  refine x_iconst (v := 1) dX6_carry_0 (by decide) ?_
  refine x_iload_n dX6_carry_1 rfl 3 rfl ?_
  refine x_ishl dX6_carry_2 ?_
  refine x_iconst (v := 1) dX6_carry_3 (by decide) ?_
  refine x_isub dX6_carry_4 ?_
  obtain ⟨v1, ev1, H⟩ := nm_o H
  refine x_istore (lv' := [(4, .int v1), (0, .ref x0), (1, .int x1), (2, .int x2), (3, .int x3)]) dX6_carry_5 (by decide) ev1 rfl ?_
  refine x_aload_n dX6_carry_7 rfl 1 rfl ?_
  refine x_iload_n dX6_carry_8 rfl 2 rfl ?_
  refine x_iload_n dX6_carry_9 rfl 2 rfl ?_
  refine x_iload_n dX6_carry_10 rfl 3 rfl ?_
  refine x_iadd dX6_carry_11 ?_
  refine x_iload_n dX6_carry_12 rfl 4 rfl ?_
  obtain ⟨v2, h3, hc4, H⟩ := bd_o H
  refine x_callSi (As := [.int x1, .int (x1 + x2), .int x3]) dX6_carry_13 mi_X6_leastExponent lk_X6_44 sm_X6_leastExponent rfl rfl (Nat.le_of_ble_eq_true rfl) (t_X6_leastExponent (by omega) hc4) ?_
  obtain ⟨c5, H⟩ := ko_o H
  refine x_putI fl_X6_22 dX6_carry_16 c5 (fun e => by cases e) rfl ?_
  refine x_aload_n dX6_carry_19 rfl 1 rfl ?_
  refine x_iload_n dX6_carry_20 rfl 2 rfl ?_
  refine x_aload_n dX6_carry_21 rfl 1 rfl ?_
  refine x_getI fr_X6_22 dX6_carry_22 c5 rfl ?_
  obtain ⟨v6, h7, hc8, H⟩ := bd_o H
  refine x_callSi (As := [.int x1, .int (hI (sI h3 x0 3 v2) x0 3)]) dX6_carry_25 mi_X6_down lk_X6_41 sm_X6_down rfl rfl (Nat.le_of_ble_eq_true rfl) (t_X6_down (by omega) hc8) ?_
  refine x_aload_n dX6_carry_28 rfl 1 rfl ?_
  obtain ⟨c9, H⟩ := ko_o H
  refine x_getI fr_X6_22 dX6_carry_29 c9 rfl ?_
  refine x_ishr dX6_carry_32 ?_
  refine x_iload dX6_carry_33 0 rfl ?_
  refine x_iand dX6_carry_35 ?_
  refine x_putI fl_X6_25 dX6_carry_36 c9 (fun e => by cases e) rfl ?_
  refine x_aload_n dX6_carry_39 rfl 1 rfl ?_
  refine x_iload_n dX6_carry_40 rfl 2 rfl ?_
  refine x_iload_n dX6_carry_41 rfl 3 rfl ?_
  refine x_iadd dX6_carry_42 ?_
  refine x_aload_n dX6_carry_43 rfl 1 rfl ?_
  refine x_getI fr_X6_22 dX6_carry_44 c9 rfl ?_
  obtain ⟨v10, h11, hc12, H⟩ := bd_o H
  refine x_callSi (As := [.int (x1 + x2), .int (hI (sI h7 x0 4 ((v6 >>> ((hI h7 x0 3) &&& 31)) &&& v1)) x0 3)]) dX6_carry_47 mi_X6_up lk_X6_37 sm_X6_up rfl rfl (Nat.le_of_ble_eq_true rfl) (t_X6_up (by omega) hc12) ?_
  refine x_aload_n dX6_carry_50 rfl 1 rfl ?_
  obtain ⟨c13, H⟩ := ko_o H
  refine x_getI fr_X6_22 dX6_carry_51 c13 rfl ?_
  refine x_ishr dX6_carry_54 ?_
  refine x_iload dX6_carry_55 0 rfl ?_
  refine x_iand dX6_carry_57 ?_
  refine x_putI fl_X6_28 dX6_carry_58 c13 (fun e => by cases e) rfl ?_
  obtain ⟨-, rfl⟩ := so_1 H
  exact x_vret dX6_carry_61 rfl
