def f_X6_init (x0 : Nat) (h : aH) : Option (Unit × aH) :=
  ko h x0 6 <|
  some ((), sI (sI (sI (sI (sI (sI (sI (sI h x0 0 1) x0 1 0) x0 2 0) x0 3 0) x0 4 0) x0 5 0) x0 6 0) x0 7 0)
set_option maxRecDepth 100000 in
set_option maxHeartbeats 4000000 in
theorem t_X6_init {Γ : gS} {d : Nat} (hd : 1 ≤ d) {x0 : Nat} {h : aH} {r : Unit} {h' : aH} (H : f_X6_init x0 h = some (r, h')) : Mx Γ gX6_init d [.ref x0] h none h' := by
  refine Mx.of (by decide +kernel) (Nat.le_of_ble_eq_true rfl) ?_
  unfold f_X6_init at H
  show Ex Γ gX6_init d 0 [(0, .ref x0)] [] h none h'
  obtain ⟨d, rfl⟩ : ∃ e, d = e + 1 := ⟨d - 1, by omega⟩
  refine x_aload_n dX6_init_0 rfl 0 rfl ?_
  refine x_oinit dX6_init_1 lk_X6_3 im_obj co_obj (Nat.le_of_ble_eq_true rfl) ?_
  refine x_aload_n dX6_init_4 rfl 0 rfl ?_
  refine x_iconst (v := 1) dX6_init_5 (by decide) ?_
  obtain ⟨c1, H⟩ := ko_o H
  refine x_putZ fl_X6_9 dX6_init_6 c1 (fun e => by cases e) rfl (by decide) ?_
  refine x_aload_n dX6_init_9 rfl 0 rfl ?_
  refine x_iconst (v := 0) dX6_init_10 (by decide) ?_
  refine x_putZ fl_X6_15 dX6_init_11 c1 (fun e => by cases e) rfl (by decide) ?_
  refine x_aload_n dX6_init_14 rfl 0 rfl ?_
  refine x_iconst (v := 0) dX6_init_15 (by decide) ?_
  refine x_putI fl_X6_18 dX6_init_16 c1 (fun e => by cases e) rfl ?_
  refine x_aload_n dX6_init_19 rfl 0 rfl ?_
  refine x_iconst (v := 0) dX6_init_20 (by decide) ?_
  refine x_putI fl_X6_22 dX6_init_21 c1 (fun e => by cases e) rfl ?_
  refine x_aload_n dX6_init_24 rfl 0 rfl ?_
  refine x_iconst (v := 0) dX6_init_25 (by decide) ?_
  refine x_putI fl_X6_25 dX6_init_26 c1 (fun e => by cases e) rfl ?_
  refine x_aload_n dX6_init_29 rfl 0 rfl ?_
  refine x_iconst (v := 0) dX6_init_30 (by decide) ?_
  refine x_putI fl_X6_28 dX6_init_31 c1 (fun e => by cases e) rfl ?_
  refine x_aload_n dX6_init_34 rfl 0 rfl ?_
  refine x_iconst (v := 0) dX6_init_35 (by decide) ?_
  refine x_putI fl_X6_31 dX6_init_36 c1 (fun e => by cases e) rfl ?_
  refine x_aload_n dX6_init_39 rfl 0 rfl ?_
  refine x_iconst (v := 0) dX6_init_40 (by decide) ?_
  refine x_putI fl_X6_34 dX6_init_41 c1 (fun e => by cases e) rfl ?_
  obtain ⟨-, rfl⟩ := so_1 H
  exact x_vret dX6_init_44 rfl
def f_X6_clear (x0 : Nat) (x1 : Int32) (h : aH) : Option (Unit × aH) :=
  ko h x0 6 <|
  chk (x1 = 0 ∨ x1 = 1) <|
  some ((), sI (sI (sI (sI (sI (sI (sI (sI h x0 0 x1) x0 1 0) x0 2 0) x0 3 0) x0 4 0) x0 5 0) x0 6 0) x0 7 0)
set_option maxRecDepth 100000 in
set_option maxHeartbeats 4000000 in
theorem t_X6_clear {Γ : gS} {d : Nat} (hd : 0 ≤ d) {x0 : Nat} {x1 : Int32} {h : aH} {r : Unit} {h' : aH} (H : f_X6_clear x0 x1 h = some (r, h')) : Mx Γ gX6_clear d [.ref x0, .int x1] h none h' := by
  refine Mx.of (by decide +kernel) (Nat.le_of_ble_eq_true rfl) ?_
  unfold f_X6_clear at H
  show Ex Γ gX6_clear d 0 [(0, .ref x0), (1, .int x1)] [] h none h'
  refine x_aload_n dX6_clear_0 rfl 0 rfl ?_
  refine x_iload_n dX6_clear_1 rfl 1 rfl ?_
  obtain ⟨c1, H⟩ := ko_o H
  obtain ⟨c2, H⟩ := chk_o H
  refine x_putZ fl_X6_9 dX6_clear_2 c1 (fun e => by cases e) rfl c2 ?_
  refine x_aload_n dX6_clear_5 rfl 0 rfl ?_
  refine x_iconst (v := 0) dX6_clear_6 (by decide) ?_
  refine x_putZ fl_X6_15 dX6_clear_7 c1 (fun e => by cases e) rfl (by decide) ?_
  refine x_aload_n dX6_clear_10 rfl 0 rfl ?_
  refine x_iconst (v := 0) dX6_clear_11 (by decide) ?_
  refine x_putI fl_X6_18 dX6_clear_12 c1 (fun e => by cases e) rfl ?_
  refine x_aload_n dX6_clear_15 rfl 0 rfl ?_
  refine x_iconst (v := 0) dX6_clear_16 (by decide) ?_
  refine x_putI fl_X6_22 dX6_clear_17 c1 (fun e => by cases e) rfl ?_
  refine x_aload_n dX6_clear_20 rfl 0 rfl ?_
  refine x_iconst (v := 0) dX6_clear_21 (by decide) ?_
  refine x_putI fl_X6_25 dX6_clear_22 c1 (fun e => by cases e) rfl ?_
  refine x_aload_n dX6_clear_25 rfl 0 rfl ?_
  refine x_iconst (v := 0) dX6_clear_26 (by decide) ?_
  refine x_putI fl_X6_28 dX6_clear_27 c1 (fun e => by cases e) rfl ?_
  refine x_aload_n dX6_clear_30 rfl 0 rfl ?_
  refine x_iconst (v := 0) dX6_clear_31 (by decide) ?_
  refine x_putI fl_X6_31 dX6_clear_32 c1 (fun e => by cases e) rfl ?_
  refine x_aload_n dX6_clear_35 rfl 0 rfl ?_
  refine x_iconst (v := 0) dX6_clear_36 (by decide) ?_
  refine x_putI fl_X6_34 dX6_clear_37 c1 (fun e => by cases e) rfl ?_
  obtain ⟨-, rfl⟩ := so_1 H
  exact x_vret dX6_clear_40 rfl
def f_X6_become (x0 : Nat) (x1 : Nat) (h : aH) : Option (Unit × aH) :=
  ko h x1 6 <|
  ko h x0 6 <|
  chk (hI h x1 0 = 0 ∨ hI h x1 0 = 1) <|
  nm (hI (sI h x0 0 (hI h x1 0)) x1 1) fun (v3 : Int32) =>
  chk (v3 = 0 ∨ v3 = 1) <|
  nm (hI (sI (sI h x0 0 (hI h x1 0)) x0 1 v3) x1 2) fun (v4 : Int32) =>
  nm (hI (sI (sI (sI h x0 0 (hI h x1 0)) x0 1 v3) x0 2 v4) x1 3) fun (v5 : Int32) =>
  nm (hI (sI (sI (sI (sI h x0 0 (hI h x1 0)) x0 1 v3) x0 2 v4) x0 3 v5) x1 4) fun (v6 : Int32) =>
  nm (hI (sI (sI (sI (sI (sI h x0 0 (hI h x1 0)) x0 1 v3) x0 2 v4) x0 3 v5) x0 4 v6) x1 5) fun (v7 : Int32) =>
  nm (hI (sI (sI (sI (sI (sI (sI h x0 0 (hI h x1 0)) x0 1 v3) x0 2 v4) x0 3 v5) x0 4 v6) x0 5 v7) x1 6) fun (v8 : Int32) =>
  nm (hI (sI (sI (sI (sI (sI (sI (sI h x0 0 (hI h x1 0)) x0 1 v3) x0 2 v4) x0 3 v5) x0 4 v6) x0 5 v7) x0 6 v8) x1 7) fun (v9 : Int32) =>
  some ((), sI (sI (sI (sI (sI (sI (sI (sI h x0 0 (hI h x1 0)) x0 1 v3) x0 2 v4) x0 3 v5) x0 4 v6) x0 5 v7) x0 6 v8) x0 7 v9)
set_option maxRecDepth 100000 in
set_option maxHeartbeats 4000000 in
theorem t_X6_become {Γ : gS} {d : Nat} (hd : 0 ≤ d) {x0 : Nat} {x1 : Nat} {h : aH} {r : Unit} {h' : aH} (H : f_X6_become x0 x1 h = some (r, h')) : Mx Γ gX6_become d [.ref x0, .ref x1] h none h' := by
  refine Mx.of (by decide +kernel) (Nat.le_of_ble_eq_true rfl) ?_
  unfold f_X6_become at H
  show Ex Γ gX6_become d 0 [(0, .ref x0), (1, .ref x1)] [] h none h'
  refine x_aload_n dX6_become_0 rfl 0 rfl ?_
  refine x_aload_n dX6_become_1 rfl 1 rfl ?_
  obtain ⟨c1, H⟩ := ko_o H
  refine x_getI fr_X6_9 dX6_become_2 c1 rfl ?_
  obtain ⟨c2, H⟩ := ko_o H
  obtain ⟨c11, H⟩ := chk_o H
  refine x_putZ fl_X6_9 dX6_become_5 c2 (fun e => by cases e) rfl c11 ?_
  refine x_aload_n dX6_become_8 rfl 0 rfl ?_
  refine x_aload_n dX6_become_9 rfl 1 rfl ?_
  obtain ⟨v3, ev3, H⟩ := nm_o H
  refine x_getIe fr_X6_15 dX6_become_10 c1 rfl ev3 ?_
  obtain ⟨c10, H⟩ := chk_o H
  refine x_putZ fl_X6_15 dX6_become_13 c2 (fun e => by cases e) rfl c10 ?_
  refine x_aload_n dX6_become_16 rfl 0 rfl ?_
  refine x_aload_n dX6_become_17 rfl 1 rfl ?_
  obtain ⟨v4, ev4, H⟩ := nm_o H
  refine x_getIe fr_X6_18 dX6_become_18 c1 rfl ev4 ?_
  refine x_putI fl_X6_18 dX6_become_21 c2 (fun e => by cases e) rfl ?_
  refine x_aload_n dX6_become_24 rfl 0 rfl ?_
  refine x_aload_n dX6_become_25 rfl 1 rfl ?_
  obtain ⟨v5, ev5, H⟩ := nm_o H
  refine x_getIe fr_X6_22 dX6_become_26 c1 rfl ev5 ?_
  refine x_putI fl_X6_22 dX6_become_29 c2 (fun e => by cases e) rfl ?_
  refine x_aload_n dX6_become_32 rfl 0 rfl ?_
  refine x_aload_n dX6_become_33 rfl 1 rfl ?_
  obtain ⟨v6, ev6, H⟩ := nm_o H
  refine x_getIe fr_X6_25 dX6_become_34 c1 rfl ev6 ?_
  refine x_putI fl_X6_25 dX6_become_37 c2 (fun e => by cases e) rfl ?_
  refine x_aload_n dX6_become_40 rfl 0 rfl ?_
  refine x_aload_n dX6_become_41 rfl 1 rfl ?_
  obtain ⟨v7, ev7, H⟩ := nm_o H
  refine x_getIe fr_X6_28 dX6_become_42 c1 rfl ev7 ?_
  refine x_putI fl_X6_28 dX6_become_45 c2 (fun e => by cases e) rfl ?_
  refine x_aload_n dX6_become_48 rfl 0 rfl ?_
  refine x_aload_n dX6_become_49 rfl 1 rfl ?_
  obtain ⟨v8, ev8, H⟩ := nm_o H
  refine x_getIe fr_X6_31 dX6_become_50 c1 rfl ev8 ?_
  refine x_putI fl_X6_31 dX6_become_53 c2 (fun e => by cases e) rfl ?_
  refine x_aload_n dX6_become_56 rfl 0 rfl ?_
  refine x_aload_n dX6_become_57 rfl 1 rfl ?_
  obtain ⟨v9, ev9, H⟩ := nm_o H
  refine x_getIe fr_X6_34 dX6_become_58 c1 rfl ev9 ?_
  refine x_putI fl_X6_34 dX6_become_61 c2 (fun e => by cases e) rfl ?_
  obtain ⟨-, rfl⟩ := so_1 H
  exact x_vret dX6_become_64 rfl
def f_X6_down (x0 : Int32) (x1 : Int32) (h : aH) : Option (Int32 × aH) :=
  some ((x0 >>> (x1 &&& 31)) <<< (x1 &&& 31), h)
set_option maxRecDepth 100000 in
set_option maxHeartbeats 4000000 in
theorem t_X6_down {Γ : gS} {d : Nat} (hd : 0 ≤ d) {x0 : Int32} {x1 : Int32} {h : aH} {r : Int32} {h' : aH} (H : f_X6_down x0 x1 h = some (r, h')) : Mx Γ gX6_down d [.int x0, .int x1] h (some (.int r)) h' := by
  refine Mx.of (by decide +kernel) (Nat.le_of_ble_eq_true rfl) ?_
  unfold f_X6_down at H
  show Ex Γ gX6_down d 0 [(0, .int x0), (1, .int x1)] [] h (some (.int r)) h'
  refine x_iload_n dX6_down_0 rfl 0 rfl ?_
  refine x_iload_n dX6_down_1 rfl 1 rfl ?_
  refine x_ishr dX6_down_2 ?_
  refine x_iload_n dX6_down_3 rfl 1 rfl ?_
  refine x_ishl dX6_down_4 ?_
  obtain ⟨rfl, rfl⟩ := so_1 H
  exact x_iret dX6_down_5 rfl rfl
def f_X6_up (x0 : Int32) (x1 : Int32) (h : aH) : Option (Int32 × aH) :=
  bd (f_X6_down ((x0 + (1 <<< (x1 &&& 31))) - 1) x1 h) fun v1 h2 =>
  some (v1, h2)
set_option maxRecDepth 100000 in
set_option maxHeartbeats 4000000 in
theorem t_X6_up {Γ : gS} {d : Nat} (hd : 1 ≤ d) {x0 : Int32} {x1 : Int32} {h : aH} {r : Int32} {h' : aH} (H : f_X6_up x0 x1 h = some (r, h')) : Mx Γ gX6_up d [.int x0, .int x1] h (some (.int r)) h' := by
  refine Mx.of (by decide +kernel) (Nat.le_of_ble_eq_true rfl) ?_
  unfold f_X6_up at H
  show Ex Γ gX6_up d 0 [(0, .int x0), (1, .int x1)] [] h (some (.int r)) h'
  obtain ⟨d, rfl⟩ : ∃ e, d = e + 1 := ⟨d - 1, by omega⟩
  refine x_iload_n dX6_up_0 rfl 0 rfl ?_
  refine x_iconst (v := 1) dX6_up_1 (by decide) ?_
  refine x_iload_n dX6_up_2 rfl 1 rfl ?_
  refine x_ishl dX6_up_3 ?_
  refine x_iadd dX6_up_4 ?_
  refine x_iconst (v := 1) dX6_up_5 (by decide) ?_
  refine x_isub dX6_up_6 ?_
  refine x_iload_n dX6_up_7 rfl 1 rfl ?_
  obtain ⟨v1, h2, hc3, H⟩ := bd_o H
  refine x_callSi (As := [.int ((x0 + (1 <<< (x1 &&& 31))) - 1), .int x1]) dX6_up_8 mi_X6_down lk_X6_41 sm_X6_down rfl rfl (Nat.le_of_ble_eq_true rfl) (t_X6_down (by omega) hc3) ?_
  obtain ⟨rfl, rfl⟩ := so_1 H
  exact x_iret dX6_up_11 rfl rfl
def b_X6_leastExponent_8 (k8 : Int32 → Int32 → Int32 → Int32 → Int32 → aH → Option (Int32 × aH)) (x0 : Int32) (x1 : Int32) (x2 : Int32) (x3 : Int32) (x4 : Int32) (h : aH) : Option (Int32 × aH) :=
  if x3 ≤ x4 then
    some (x3, h)
  else
    bd (f_X6_up x1 x4 h) fun v2 h3 =>
    bd (f_X6_down x0 x4 h3) fun v5 h6 =>
    nm (v2 - v5) fun (v8 : Int32) =>
    if (1 <<< ((x2 - 1) &&& 31)) < (v8 >>> (x4 &&& 31)) then
      nm (x4 + 1) fun (v10 : Int32) =>
      k8 x0 x1 x2 x3 v10 h6
    else
      some (x4, h6)
set_option maxRecDepth 100000 in
set_option maxHeartbeats 4000000 in
theorem tb_X6_leastExponent_8 {Γ : gS} {d : Nat} (hd : 2 ≤ d) {k8 : Int32 → Int32 → Int32 → Int32 → Int32 → aH → Option (Int32 × aH)} (hk8 : ∀ {x0 : Int32} {x1 : Int32} {x2 : Int32} {x3 : Int32} {x4 : Int32} {h : aH} {r : Int32} {h' : aH}, k8 x0 x1 x2 x3 x4 h = some (r, h') → Ex Γ gX6_leastExponent d 8 [(0, .int x0), (1, .int x1), (2, .int x2), (3, .int x3), (4, .int x4)] [] h (some (.int r)) h') {x0 : Int32} {x1 : Int32} {x2 : Int32} {x3 : Int32} {x4 : Int32} {h : aH} {r : Int32} {h' : aH} (H : b_X6_leastExponent_8 k8 x0 x1 x2 x3 x4 h = some (r, h')) : Ex Γ gX6_leastExponent d 8 [(0, .int x0), (1, .int x1), (2, .int x2), (3, .int x3), (4, .int x4)] [] h (some (.int r)) h' := by
  unfold b_X6_leastExponent_8 at H
  obtain ⟨d, rfl⟩ : ∃ e, d = e + 1 := ⟨d - 1, by omega⟩
  refine x_iload dX6_leastExponent_8 4 rfl ?_
  refine x_iload_n dX6_leastExponent_10 rfl 3 rfl ?_
  refine x_icmp_ge (tgt := 51) dX6_leastExponent_11 (by decide) (fun c1 => ?_) (fun c1 => ?_)
  · replace H := ite_p H c1
    refine x_iload_n dX6_leastExponent_51 rfl 3 rfl ?_
    obtain ⟨rfl, rfl⟩ := so_1 H
    exact x_iret dX6_leastExponent_52 rfl rfl
  · replace H := ite_m H c1
    refine x_iload_n dX6_leastExponent_14 rfl 1 rfl ?_
    refine x_iload dX6_leastExponent_15 4 rfl ?_
    obtain ⟨v2, h3, hc4, H⟩ := bd_o H
    refine x_callSi (As := [.int x1, .int x4]) dX6_leastExponent_17 mi_X6_up lk_X6_37 sm_X6_up rfl rfl (Nat.le_of_ble_eq_true rfl) (t_X6_up (by omega) hc4) ?_
    refine x_iload_n dX6_leastExponent_20 rfl 0 rfl ?_
    refine x_iload dX6_leastExponent_21 4 rfl ?_
    obtain ⟨v5, h6, hc7, H⟩ := bd_o H
    refine x_callSi (As := [.int x0, .int x4]) dX6_leastExponent_23 mi_X6_down lk_X6_41 sm_X6_down rfl rfl (Nat.le_of_ble_eq_true rfl) (t_X6_down (by omega) hc7) ?_
    refine x_isub dX6_leastExponent_26 ?_
    obtain ⟨v8, ev8, H⟩ := nm_o H
    refine x_istore (lv' := [(5, .int v8), (0, .int x0), (1, .int x1), (2, .int x2), (3, .int x3), (4, .int x4)]) dX6_leastExponent_27 (by decide) ev8 rfl ?_
    refine x_iload dX6_leastExponent_29 0 rfl ?_
    refine x_iload dX6_leastExponent_31 5 rfl ?_
    refine x_ishr dX6_leastExponent_33 ?_
    refine x_iconst (v := 1) dX6_leastExponent_34 (by decide) ?_
    refine x_iload_n dX6_leastExponent_35 rfl 3 rfl ?_
    refine x_iconst (v := 1) dX6_leastExponent_36 (by decide) ?_
    refine x_isub dX6_leastExponent_37 ?_
    refine x_ishl dX6_leastExponent_38 ?_
    refine x_icmp_gt (tgt := 45) dX6_leastExponent_39 (by decide) (fun c9 => ?_) (fun c9 => ?_)
    · replace H := ite_p H c9
      obtain ⟨v10, ev10, H⟩ := nm_o H
      refine x_iinc (v := v10) (lv' := [(4, .int v10), (5, .int v8), (0, .int x0), (1, .int x1), (2, .int x2), (3, .int x3)]) dX6_leastExponent_45 5 rfl (by decide) ev10 rfl ?_
      refine x_goto (tgt := 8) dX6_leastExponent_48 (by decide) ?_
      refine Ex.sub [2, 3, 4, 5, 0] rfl ?_
      exact hk8 H
    · replace H := ite_m H c9
      refine x_iload dX6_leastExponent_42 5 rfl ?_
      obtain ⟨rfl, rfl⟩ := so_1 H
      exact x_iret dX6_leastExponent_44 rfl rfl
def f_X6_leastExponent_8 : Nat → Int32 → Int32 → Int32 → Int32 → Int32 → aH → Option (Int32 × aH)
  | 0 => fun _ _ _ _ _ _ => none
  | n + 1 => b_X6_leastExponent_8 (f_X6_leastExponent_8 n)
set_option maxRecDepth 100000 in
set_option maxHeartbeats 4000000 in
theorem t_X6_leastExponent_8 {Γ : gS} {d : Nat} (hd : 2 ≤ d) (n : Nat) : ∀ {x0 : Int32} {x1 : Int32} {x2 : Int32} {x3 : Int32} {x4 : Int32} {h : aH} {r : Int32} {h' : aH}, f_X6_leastExponent_8 n x0 x1 x2 x3 x4 h = some (r, h') → Ex Γ gX6_leastExponent d 8 [(0, .int x0), (1, .int x1), (2, .int x2), (3, .int x3), (4, .int x4)] [] h (some (.int r)) h' := by
  induction n with
  | zero => intro x0 x1 x2 x3 x4 h r h' H; cases H
  | succ n ih => intro x0 x1 x2 x3 x4 h r h' H; exact tb_X6_leastExponent_8 hd ih H
def f_X6_leastExponent (x0 : Int32) (x1 : Int32) (x2 : Int32) (h : aH) : Option (Int32 × aH) :=
  nm (13 - x2) fun (v11 : Int32) =>
  f_X6_leastExponent_8 FU x0 x1 x2 v11 0 h
set_option maxRecDepth 100000 in
set_option maxHeartbeats 4000000 in
theorem t_X6_leastExponent {Γ : gS} {d : Nat} (hd : 2 ≤ d) {x0 : Int32} {x1 : Int32} {x2 : Int32} {h : aH} {r : Int32} {h' : aH} (H : f_X6_leastExponent x0 x1 x2 h = some (r, h')) : Mx Γ gX6_leastExponent d [.int x0, .int x1, .int x2] h (some (.int r)) h' := by
  refine Mx.of (by decide +kernel) (Nat.le_of_ble_eq_true rfl) ?_
  unfold f_X6_leastExponent at H
  show Ex Γ gX6_leastExponent d 0 [(0, .int x0), (1, .int x1), (2, .int x2)] [] h (some (.int r)) h'
  obtain ⟨d, rfl⟩ : ∃ e, d = e + 1 := ⟨d - 1, by omega⟩
  refine x_bipush (v := 13) dX6_leastExponent_0 (by decide) ?_
  refine x_iload_n dX6_leastExponent_2 rfl 2 rfl ?_
  refine x_isub dX6_leastExponent_3 ?_
  obtain ⟨v11, ev11, H⟩ := nm_o H
  refine x_istore_n (lv' := [(3, .int v11), (0, .int x0), (1, .int x1), (2, .int x2)]) dX6_leastExponent_4 rfl (by decide) ev11 rfl ?_
  refine x_iconst (v := 0) dX6_leastExponent_5 (by decide) ?_
  refine x_istore (lv' := [(4, .int 0), (3, .int v11), (0, .int x0), (1, .int x1), (2, .int x2)]) dX6_leastExponent_6 (by decide) rfl rfl ?_
  refine Ex.sub [2, 3, 4, 1, 0] rfl ?_
  exact t_X6_leastExponent_8 hd FU H
def f_X6_staysAsAsked_36 (s0 : Int32) (h : aH) : Option (Int32 × aH) :=
  chk (narrow .boolean (.int s0) = .int s0) <|
  some (s0, h)
set_option maxRecDepth 100000 in
set_option maxHeartbeats 4000000 in
theorem t_X6_staysAsAsked_36 {Γ : gS} {d : Nat} (hd : 3 ≤ d) {s0 : Int32} {h : aH} {r : Int32} {h' : aH} (H : f_X6_staysAsAsked_36 s0 h = some (r, h')) : Ex Γ gX6_staysAsAsked d 36 [] [.int s0] h (some (.int r)) h' := by
  unfold f_X6_staysAsAsked_36 at H
  obtain ⟨d, rfl⟩ : ∃ e, d = e + 1 := ⟨d - 1, by omega⟩
  obtain ⟨c1, H⟩ := chk_o H
  obtain ⟨rfl, rfl⟩ := so_1 H
  exact x_iret dX6_staysAsAsked_36 rfl c1
def f_X6_staysAsAsked_35 (h : aH) : Option (Int32 × aH) :=
  f_X6_staysAsAsked_36 0 h
set_option maxRecDepth 100000 in
set_option maxHeartbeats 4000000 in
theorem t_X6_staysAsAsked_35 {Γ : gS} {d : Nat} (hd : 3 ≤ d) {h : aH} {r : Int32} {h' : aH} (H : f_X6_staysAsAsked_35 h = some (r, h')) : Ex Γ gX6_staysAsAsked d 35 [] [] h (some (.int r)) h' := by
  unfold f_X6_staysAsAsked_35 at H
  obtain ⟨d, rfl⟩ : ∃ e, d = e + 1 := ⟨d - 1, by omega⟩
  refine x_iconst (v := 0) dX6_staysAsAsked_35 (by decide) ?_
  exact t_X6_staysAsAsked_36 hd H
def f_X6_staysAsAsked (x0 : Int32) (x1 : Int32) (x2 : Int32) (h : aH) : Option (Int32 × aH) :=
  bd (f_X6_leastExponent x0 (x0 + x1) x2 h) fun v2 h3 =>
  bd (f_X6_down x0 v2 h3) fun v5 h6 =>
  if v5 = x0 then
    bd (f_X6_up (x0 + x1) v2 h6) fun v9 h10 =>
    if v9 = (x0 + x1) then
      f_X6_staysAsAsked_36 1 h10
    else
      f_X6_staysAsAsked_35 h10
  else
    f_X6_staysAsAsked_35 h6
set_option maxRecDepth 100000 in
set_option maxHeartbeats 4000000 in
theorem t_X6_staysAsAsked {Γ : gS} {d : Nat} (hd : 3 ≤ d) {x0 : Int32} {x1 : Int32} {x2 : Int32} {h : aH} {r : Int32} {h' : aH} (H : f_X6_staysAsAsked x0 x1 x2 h = some (r, h')) : Mx Γ gX6_staysAsAsked d [.int x0, .int x1, .int x2] h (some (.int r)) h' := by
  refine Mx.of (by decide +kernel) (Nat.le_of_ble_eq_true rfl) ?_
  unfold f_X6_staysAsAsked at H
  show Ex Γ gX6_staysAsAsked d 0 [(0, .int x0), (1, .int x1), (2, .int x2)] [] h (some (.int r)) h'
  obtain ⟨d, rfl⟩ : ∃ e, d = e + 1 := ⟨d - 1, by omega⟩
  refine x_iload_n dX6_staysAsAsked_0 rfl 0 rfl ?_
  refine x_iload_n dX6_staysAsAsked_1 rfl 0 rfl ?_
  refine x_iload_n dX6_staysAsAsked_2 rfl 1 rfl ?_
  refine x_iadd dX6_staysAsAsked_3 ?_
  refine x_iload_n dX6_staysAsAsked_4 rfl 2 rfl ?_
  obtain ⟨v2, h3, hc4, H⟩ := bd_o H
  refine x_callSi (As := [.int x0, .int (x0 + x1), .int x2]) dX6_staysAsAsked_5 mi_X6_leastExponent lk_X6_44 sm_X6_leastExponent rfl rfl (Nat.le_of_ble_eq_true rfl) (t_X6_leastExponent (by omega) hc4) ?_
  refine x_istore_n (lv' := [(3, .int v2), (0, .int x0), (1, .int x1), (2, .int x2)]) dX6_staysAsAsked_8 rfl (by decide) rfl rfl ?_
  refine x_iload_n dX6_staysAsAsked_9 rfl 1 rfl ?_
  refine x_iload_n dX6_staysAsAsked_10 rfl 0 rfl ?_
  obtain ⟨v5, h6, hc7, H⟩ := bd_o H
  refine x_callSi (As := [.int x0, .int v2]) dX6_staysAsAsked_11 mi_X6_down lk_X6_41 sm_X6_down rfl rfl (Nat.le_of_ble_eq_true rfl) (t_X6_down (by omega) hc7) ?_
  refine x_iload_n dX6_staysAsAsked_14 rfl 1 rfl ?_
  refine x_icmp_ne (tgt := 35) dX6_staysAsAsked_15 (by decide) (fun c8 => ?_) (fun c8 => ?_)
  · replace H := ite_m H c8
    refine Ex.sub [] rfl ?_
    exact t_X6_staysAsAsked_35 hd H
  · replace H := ite_p H c8
    refine x_iload_n dX6_staysAsAsked_18 rfl 1 rfl ?_
    refine x_iload_n dX6_staysAsAsked_19 rfl 2 rfl ?_
    refine x_iadd dX6_staysAsAsked_20 ?_
    refine x_iload_n dX6_staysAsAsked_21 rfl 0 rfl ?_
    obtain ⟨v9, h10, hc11, H⟩ := bd_o H
    refine x_callSi (As := [.int (x0 + x1), .int v2]) dX6_staysAsAsked_22 mi_X6_up lk_X6_37 sm_X6_up rfl rfl (Nat.le_of_ble_eq_true rfl) (t_X6_up (by omega) hc11) ?_
    refine x_iload_n dX6_staysAsAsked_25 rfl 1 rfl ?_
    refine x_iload_n dX6_staysAsAsked_26 rfl 2 rfl ?_
    refine x_iadd dX6_staysAsAsked_27 ?_
    refine x_icmp_ne (tgt := 35) dX6_staysAsAsked_28 (by decide) (fun c12 => ?_) (fun c12 => ?_)
    · replace H := ite_m H c12
      refine Ex.sub [] rfl ?_
      exact t_X6_staysAsAsked_35 hd H
    · replace H := ite_p H c12
      refine x_iconst (v := 1) dX6_staysAsAsked_31 (by decide) ?_
      refine x_goto (tgt := 36) dX6_staysAsAsked_32 (by decide) ?_
      refine Ex.sub [] rfl ?_
      exact t_X6_staysAsAsked_36 hd H
def f_X6_carry (x0 : Nat) (x1 : Int32) (x2 : Int32) (x3 : Int32) (h : aH) : Option (Unit × aH) :=
  nm ((1 <<< (x3 &&& 31)) - 1) fun (v1 : Int32) =>
  bd (f_X6_leastExponent x1 (x1 + x2) x3 h) fun v2 h3 =>
  ko h3 x0 6 <|
  nm (hI (sI h3 x0 3 v2) x0 3) fun (v6 : Int32) =>
  bd (f_X6_down x1 v6 (sI h3 x0 3 v2)) fun v7 h8 =>
  ko h8 x0 6 <|
  nm (hI (sI h8 x0 4 ((v7 >>> ((hI h8 x0 3) &&& 31)) &&& v1)) x0 3) fun (v11 : Int32) =>
  bd (f_X6_up (x1 + x2) v11 (sI h8 x0 4 ((v7 >>> ((hI h8 x0 3) &&& 31)) &&& v1))) fun v12 h13 =>
  ko h13 x0 6 <|
  some ((), sI h13 x0 5 ((v12 >>> ((hI h13 x0 3) &&& 31)) &&& v1))
set_option maxRecDepth 100000 in
set_option maxHeartbeats 4000000 in
theorem t_X6_carry {Γ : gS} {d : Nat} (hd : 3 ≤ d) {x0 : Nat} {x1 : Int32} {x2 : Int32} {x3 : Int32} {h : aH} {r : Unit} {h' : aH} (H : f_X6_carry x0 x1 x2 x3 h = some (r, h')) : Mx Γ gX6_carry d [.ref x0, .int x1, .int x2, .int x3] h none h' := by
  refine Mx.of (by decide +kernel) (Nat.le_of_ble_eq_true rfl) ?_
  unfold f_X6_carry at H
  show Ex Γ gX6_carry d 0 [(0, .ref x0), (1, .int x1), (2, .int x2), (3, .int x3)] [] h none h'
  obtain ⟨d, rfl⟩ : ∃ e, d = e + 1 := ⟨d - 1, by omega⟩
  refine x_iconst (v := 1) dX6_carry_0 (by decide) ?_
  refine x_iload_n dX6_carry_1 rfl 3 rfl ?_
  refine x_ishl dX6_carry_2 ?_
  refine x_iconst (v := 1) dX6_carry_3 (by decide) ?_
  refine x_isub dX6_carry_4 ?_
  obtain ⟨v1, ev1, H⟩ := nm_o H
  refine x_istore (lv' := [(4, .int v1), (0, .ref x0), (1, .int x1), (2, .int x2), (3, .int x3)]) dX6_carry_5 (by decide) ev1 rfl ?_
  refine x_aload_n dX6_carry_7 rfl 1 rfl ?_
  refine x_iload_n dX6_carry_8 rfl 2 rfl ?_
  refine x_iload_n dX6_carry_9 rfl 2 rfl ?_
  refine x_iload_n dX6_carry_10 rfl 3 rfl ?_
  refine x_iadd dX6_carry_11 ?_
  refine x_iload_n dX6_carry_12 rfl 4 rfl ?_
  obtain ⟨v2, h3, hc4, H⟩ := bd_o H
  refine x_callSi (As := [.int x1, .int (x1 + x2), .int x3]) dX6_carry_13 mi_X6_leastExponent lk_X6_44 sm_X6_leastExponent rfl rfl (Nat.le_of_ble_eq_true rfl) (t_X6_leastExponent (by omega) hc4) ?_
  obtain ⟨c5, H⟩ := ko_o H
  refine x_putI fl_X6_22 dX6_carry_16 c5 (fun e => by cases e) rfl ?_
  refine x_aload_n dX6_carry_19 rfl 1 rfl ?_
  refine x_iload_n dX6_carry_20 rfl 2 rfl ?_
  refine x_aload_n dX6_carry_21 rfl 1 rfl ?_
  obtain ⟨v6, ev6, H⟩ := nm_o H
  refine x_getIe fr_X6_22 dX6_carry_22 c5 rfl ev6 ?_
  obtain ⟨v7, h8, hc9, H⟩ := bd_o H
  refine x_callSi (As := [.int x1, .int v6]) dX6_carry_25 mi_X6_down lk_X6_41 sm_X6_down rfl rfl (Nat.le_of_ble_eq_true rfl) (t_X6_down (by omega) hc9) ?_
  refine x_aload_n dX6_carry_28 rfl 1 rfl ?_
  obtain ⟨c10, H⟩ := ko_o H
  refine x_getI fr_X6_22 dX6_carry_29 c10 rfl ?_
  refine x_ishr dX6_carry_32 ?_
  refine x_iload dX6_carry_33 0 rfl ?_
  refine x_iand dX6_carry_35 ?_
  refine x_putI fl_X6_25 dX6_carry_36 c10 (fun e => by cases e) rfl ?_
  refine x_aload_n dX6_carry_39 rfl 1 rfl ?_
  refine x_iload_n dX6_carry_40 rfl 2 rfl ?_
  refine x_iload_n dX6_carry_41 rfl 3 rfl ?_
  refine x_iadd dX6_carry_42 ?_
  refine x_aload_n dX6_carry_43 rfl 1 rfl ?_
  obtain ⟨v11, ev11, H⟩ := nm_o H
  refine x_getIe fr_X6_22 dX6_carry_44 c10 rfl ev11 ?_
  obtain ⟨v12, h13, hc14, H⟩ := bd_o H
  refine x_callSi (As := [.int (x1 + x2), .int v11]) dX6_carry_47 mi_X6_up lk_X6_37 sm_X6_up rfl rfl (Nat.le_of_ble_eq_true rfl) (t_X6_up (by omega) hc14) ?_
  refine x_aload_n dX6_carry_50 rfl 1 rfl ?_
  obtain ⟨c15, H⟩ := ko_o H
  refine x_getI fr_X6_22 dX6_carry_51 c15 rfl ?_
  refine x_ishr dX6_carry_54 ?_
  refine x_iload dX6_carry_55 0 rfl ?_
  refine x_iand dX6_carry_57 ?_
  refine x_putI fl_X6_28 dX6_carry_58 c15 (fun e => by cases e) rfl ?_
  obtain ⟨-, rfl⟩ := so_1 H
  exact x_vret dX6_carry_61 rfl
def f_X6_baseFrom_56 (x0 : Nat) (x1 : Int32) (x2 : Int32) (s0 : Int32) (s1 : Int32) (h : aH) : Option (Int32 × aH) :=
  nm (s0 - s1) fun (v1 : Int32) =>
  ko h x0 6 <|
  nm ((hI h x0 3) + x2) fun (v3 : Int32) =>
  nm (((x1 >>> (v3 &&& 31)) + v1) <<< (v3 &&& 31)) fun (v4 : Int32) =>
  some ((v4 + ((hI h x0 4) <<< ((hI h x0 3) &&& 31))) &&& 4095, h)
set_option maxRecDepth 100000 in
set_option maxHeartbeats 4000000 in
theorem t_X6_baseFrom_56 {Γ : gS} {d : Nat} (hd : 0 ≤ d) {x0 : Nat} {x1 : Int32} {x2 : Int32} {s0 : Int32} {s1 : Int32} {h : aH} {r : Int32} {h' : aH} (H : f_X6_baseFrom_56 x0 x1 x2 s0 s1 h = some (r, h')) : Ex Γ gX6_baseFrom d 56 [(0, .ref x0), (1, .int x1), (2, .int x2)] [.int s1, .int s0] h (some (.int r)) h' := by
  unfold f_X6_baseFrom_56 at H
  refine x_isub dX6_baseFrom_56 ?_
  obtain ⟨v1, ev1, H⟩ := nm_o H
  refine x_istore (lv' := [(6, .int v1), (0, .ref x0), (1, .int x1), (2, .int x2)]) dX6_baseFrom_57 (by decide) ev1 rfl ?_
  refine x_aload_n dX6_baseFrom_59 rfl 1 rfl ?_
  obtain ⟨c2, H⟩ := ko_o H
  refine x_getI fr_X6_22 dX6_baseFrom_60 c2 rfl ?_
  refine x_iload_n dX6_baseFrom_63 rfl 3 rfl ?_
  refine x_iadd dX6_baseFrom_64 ?_
  obtain ⟨v3, ev3, H⟩ := nm_o H
  refine x_istore (lv' := [(7, .int v3), (6, .int v1), (0, .ref x0), (1, .int x1), (2, .int x2)]) dX6_baseFrom_65 (by decide) ev3 rfl ?_
  refine x_iload_n dX6_baseFrom_67 rfl 3 rfl ?_
  refine x_iload dX6_baseFrom_68 0 rfl ?_
  refine x_ishr dX6_baseFrom_70 ?_
  refine x_iload dX6_baseFrom_71 1 rfl ?_
  refine x_iadd dX6_baseFrom_73 ?_
  refine x_iload dX6_baseFrom_74 0 rfl ?_
  refine x_ishl dX6_baseFrom_76 ?_
  obtain ⟨v4, ev4, H⟩ := nm_o H
  refine x_istore (lv' := [(8, .int v4), (7, .int v3), (6, .int v1), (0, .ref x0), (1, .int x1), (2, .int x2)]) dX6_baseFrom_77 (by decide) ev4 rfl ?_
  refine x_iload dX6_baseFrom_79 0 rfl ?_
  refine x_aload_n dX6_baseFrom_81 rfl 3 rfl ?_
  refine x_getI fr_X6_25 dX6_baseFrom_82 c2 rfl ?_
  refine x_aload_n dX6_baseFrom_85 rfl 3 rfl ?_
  refine x_getI fr_X6_22 dX6_baseFrom_86 c2 rfl ?_
  refine x_ishl dX6_baseFrom_89 ?_
  refine x_iadd dX6_baseFrom_90 ?_
  refine x_sipush (v := 4095) dX6_baseFrom_91 (by decide) ?_
  refine x_iand dX6_baseFrom_94 ?_
  obtain ⟨rfl, rfl⟩ := so_1 H
  exact x_iret dX6_baseFrom_95 rfl rfl
def f_X6_baseFrom_44 (x0 : Nat) (x1 : Int32) (x2 : Int32) (x4 : Int32) (x5 : Int32) (s0 : Int32) (h : aH) : Option (Int32 × aH) :=
  if x5 ≤ x4 then
    f_X6_baseFrom_56 x0 x1 x2 s0 0 h
  else
    f_X6_baseFrom_56 x0 x1 x2 s0 1 h
set_option maxRecDepth 100000 in
set_option maxHeartbeats 4000000 in
theorem t_X6_baseFrom_44 {Γ : gS} {d : Nat} (hd : 0 ≤ d) {x0 : Nat} {x1 : Int32} {x2 : Int32} {x4 : Int32} {x5 : Int32} {s0 : Int32} {h : aH} {r : Int32} {h' : aH} (H : f_X6_baseFrom_44 x0 x1 x2 x4 x5 s0 h = some (r, h')) : Ex Γ gX6_baseFrom d 44 [(0, .ref x0), (1, .int x1), (2, .int x2), (4, .int x4), (5, .int x5)] [.int s0] h (some (.int r)) h' := by
  unfold f_X6_baseFrom_44 at H
  refine x_iload dX6_baseFrom_44 3 rfl ?_
  refine x_iload dX6_baseFrom_46 4 rfl ?_
  refine x_icmp_ge (tgt := 55) dX6_baseFrom_48 (by decide) (fun c5 => ?_) (fun c5 => ?_)
  · replace H := ite_p H c5
    refine x_iconst (v := 0) dX6_baseFrom_55 (by decide) ?_
    refine Ex.sub [0, 1, 2] rfl ?_
    exact t_X6_baseFrom_56 hd H
  · replace H := ite_m H c5
    refine x_iconst (v := 1) dX6_baseFrom_51 (by decide) ?_
    refine x_goto (tgt := 56) dX6_baseFrom_52 (by decide) ?_
    refine Ex.sub [0, 1, 2] rfl ?_
    exact t_X6_baseFrom_56 hd H
def f_X6_baseFrom (x0 : Nat) (x1 : Int32) (x2 : Int32) (h : aH) : Option (Int32 × aH) :=
  nm ((1 <<< (x2 &&& 31)) - 1) fun (v6 : Int32) =>
  ko h x0 6 <|
  nm ((x1 >>> ((hI h x0 3) &&& 31)) &&& v6) fun (v8 : Int32) =>
  nm (((hI h x0 4) - (1 <<< ((x2 - 2) &&& 31))) &&& v6) fun (v9 : Int32) =>
  if v9 ≤ (hI h x0 4) then
    f_X6_baseFrom_44 x0 x1 x2 v8 v9 0 h
  else
    f_X6_baseFrom_44 x0 x1 x2 v8 v9 1 h
set_option maxRecDepth 100000 in
set_option maxHeartbeats 4000000 in
theorem t_X6_baseFrom {Γ : gS} {d : Nat} (hd : 0 ≤ d) {x0 : Nat} {x1 : Int32} {x2 : Int32} {h : aH} {r : Int32} {h' : aH} (H : f_X6_baseFrom x0 x1 x2 h = some (r, h')) : Mx Γ gX6_baseFrom d [.ref x0, .int x1, .int x2] h (some (.int r)) h' := by
  refine Mx.of (by decide +kernel) (Nat.le_of_ble_eq_true rfl) ?_
  unfold f_X6_baseFrom at H
  show Ex Γ gX6_baseFrom d 0 [(0, .ref x0), (1, .int x1), (2, .int x2)] [] h (some (.int r)) h'
  refine x_iconst (v := 1) dX6_baseFrom_0 (by decide) ?_
  refine x_iload_n dX6_baseFrom_1 rfl 2 rfl ?_
  refine x_ishl dX6_baseFrom_2 ?_
  refine x_iconst (v := 1) dX6_baseFrom_3 (by decide) ?_
  refine x_isub dX6_baseFrom_4 ?_
  obtain ⟨v6, ev6, H⟩ := nm_o H
  refine x_istore_n (lv' := [(3, .int v6), (0, .ref x0), (1, .int x1), (2, .int x2)]) dX6_baseFrom_5 rfl (by decide) ev6 rfl ?_
  refine x_iload_n dX6_baseFrom_6 rfl 2 rfl ?_
  refine x_aload_n dX6_baseFrom_7 rfl 1 rfl ?_
  obtain ⟨c7, H⟩ := ko_o H
  refine x_getI fr_X6_22 dX6_baseFrom_8 c7 rfl ?_
  refine x_ishr dX6_baseFrom_11 ?_
  refine x_iload_n dX6_baseFrom_12 rfl 0 rfl ?_
  refine x_iand dX6_baseFrom_13 ?_
  obtain ⟨v8, ev8, H⟩ := nm_o H
  refine x_istore (lv' := [(4, .int v8), (3, .int v6), (0, .ref x0), (1, .int x1), (2, .int x2)]) dX6_baseFrom_14 (by decide) ev8 rfl ?_
  refine x_aload_n dX6_baseFrom_16 rfl 2 rfl ?_
  refine x_getI fr_X6_25 dX6_baseFrom_17 c7 rfl ?_
  refine x_iconst (v := 1) dX6_baseFrom_20 (by decide) ?_
  refine x_iload_n dX6_baseFrom_21 rfl 4 rfl ?_
  refine x_iconst (v := 2) dX6_baseFrom_22 (by decide) ?_
  refine x_isub dX6_baseFrom_23 ?_
  refine x_ishl dX6_baseFrom_24 ?_
  refine x_isub dX6_baseFrom_25 ?_
  refine x_iload_n dX6_baseFrom_26 rfl 1 rfl ?_
  refine x_iand dX6_baseFrom_27 ?_
  obtain ⟨v9, ev9, H⟩ := nm_o H
  refine x_istore (lv' := [(5, .int v9), (4, .int v8), (3, .int v6), (0, .ref x0), (1, .int x1), (2, .int x2)]) dX6_baseFrom_28 (by decide) ev9 rfl ?_
  refine x_aload_n dX6_baseFrom_30 rfl 3 rfl ?_
  refine x_getI fr_X6_25 dX6_baseFrom_31 c7 rfl ?_
  refine x_iload dX6_baseFrom_34 0 rfl ?_
  refine x_icmp_ge (tgt := 43) dX6_baseFrom_36 (by decide) (fun c10 => ?_) (fun c10 => ?_)
  · replace H := ite_p H c10
    refine x_iconst (v := 0) dX6_baseFrom_43 (by decide) ?_
    refine Ex.sub [3, 4, 5, 1, 0] rfl ?_
    exact t_X6_baseFrom_44 hd H
  · replace H := ite_m H c10
    refine x_iconst (v := 1) dX6_baseFrom_39 (by decide) ?_
    refine x_goto (tgt := 44) dX6_baseFrom_40 (by decide) ?_
    refine Ex.sub [3, 4, 5, 1, 0] rfl ?_
    exact t_X6_baseFrom_44 hd H
def f_X6_base (x0 : Nat) (x1 : Int32) (h : aH) : Option (Int32 × aH) :=
  ko h x0 6 <|
  bd (f_X6_baseFrom x0 (hI h x0 2) x1 h) fun v2 h3 =>
  some (v2, h3)
set_option maxRecDepth 100000 in
set_option maxHeartbeats 4000000 in
theorem t_X6_base {Γ : gS} {d : Nat} (hd : 1 ≤ d) {x0 : Nat} {x1 : Int32} {h : aH} {r : Int32} {h' : aH} (H : f_X6_base x0 x1 h = some (r, h')) : Mx Γ gX6_base d [.ref x0, .int x1] h (some (.int r)) h' := by
  refine Mx.of (by decide +kernel) (Nat.le_of_ble_eq_true rfl) ?_
  unfold f_X6_base at H
  show Ex Γ gX6_base d 0 [(0, .ref x0), (1, .int x1)] [] h (some (.int r)) h'
  obtain ⟨d, rfl⟩ : ∃ e, d = e + 1 := ⟨d - 1, by omega⟩
  refine x_aload_n dX6_base_0 rfl 0 rfl ?_
  refine x_aload_n dX6_base_1 rfl 0 rfl ?_
  obtain ⟨c1, H⟩ := ko_o H
  refine x_getI fr_X6_18 dX6_base_2 c1 rfl ?_
  refine x_iload_n dX6_base_5 rfl 1 rfl ?_
  obtain ⟨v2, h3, hc4, H⟩ := bd_o H
  refine x_callVi (As := [.int (hI h x0 2), .int x1]) (q := (RX6, TX6, 8)) dX6_base_6 mi_X6_baseFrom lk_X6_48 im_X6_baseFrom se_X6_baseFrom rfl c1 rfl rfl (Nat.le_of_ble_eq_true rfl) (t_X6_baseFrom (by omega) hc4) ?_
  obtain ⟨rfl, rfl⟩ := so_1 H
  exact x_iret dX6_base_9 rfl rfl
def f_X6_extent (x0 : Nat) (x1 : Int32) (h : aH) : Option (Int32 × aH) :=
  ko h x0 6 <|
  some ((((hI h x0 5) - (hI h x0 4)) &&& ((1 <<< (x1 &&& 31)) - 1)) <<< ((hI h x0 3) &&& 31), h)
set_option maxRecDepth 100000 in
set_option maxHeartbeats 4000000 in
theorem t_X6_extent {Γ : gS} {d : Nat} (hd : 0 ≤ d) {x0 : Nat} {x1 : Int32} {h : aH} {r : Int32} {h' : aH} (H : f_X6_extent x0 x1 h = some (r, h')) : Mx Γ gX6_extent d [.ref x0, .int x1] h (some (.int r)) h' := by
  refine Mx.of (by decide +kernel) (Nat.le_of_ble_eq_true rfl) ?_
  unfold f_X6_extent at H
  show Ex Γ gX6_extent d 0 [(0, .ref x0), (1, .int x1)] [] h (some (.int r)) h'
  refine x_aload_n dX6_extent_0 rfl 0 rfl ?_
  obtain ⟨c1, H⟩ := ko_o H
  refine x_getI fr_X6_28 dX6_extent_1 c1 rfl ?_
  refine x_aload_n dX6_extent_4 rfl 0 rfl ?_
  refine x_getI fr_X6_25 dX6_extent_5 c1 rfl ?_
  refine x_isub dX6_extent_8 ?_
  refine x_iconst (v := 1) dX6_extent_9 (by decide) ?_
  refine x_iload_n dX6_extent_10 rfl 1 rfl ?_
  refine x_ishl dX6_extent_11 ?_
  refine x_iconst (v := 1) dX6_extent_12 (by decide) ?_
  refine x_isub dX6_extent_13 ?_
  refine x_iand dX6_extent_14 ?_
  refine x_aload_n dX6_extent_15 rfl 0 rfl ?_
  refine x_getI fr_X6_22 dX6_extent_16 c1 rfl ?_
  refine x_ishl dX6_extent_19 ?_
  obtain ⟨rfl, rfl⟩ := so_1 H
  exact x_iret dX6_extent_20 rfl rfl
def f_X6_isUsable_19 (s0 : Int32) (h : aH) : Option (Int32 × aH) :=
  chk (narrow .boolean (.int s0) = .int s0) <|
  some (s0, h)
set_option maxRecDepth 100000 in
set_option maxHeartbeats 4000000 in
theorem t_X6_isUsable_19 {Γ : gS} {d : Nat} (hd : 0 ≤ d) {s0 : Int32} {h : aH} {r : Int32} {h' : aH} (H : f_X6_isUsable_19 s0 h = some (r, h')) : Ex Γ gX6_isUsable d 19 [] [.int s0] h (some (.int r)) h' := by
  unfold f_X6_isUsable_19 at H
  obtain ⟨c1, H⟩ := chk_o H
  obtain ⟨rfl, rfl⟩ := so_1 H
  exact x_iret dX6_isUsable_19 rfl c1
def f_X6_isUsable_18 (h : aH) : Option (Int32 × aH) :=
  f_X6_isUsable_19 0 h
set_option maxRecDepth 100000 in
set_option maxHeartbeats 4000000 in
theorem t_X6_isUsable_18 {Γ : gS} {d : Nat} (hd : 0 ≤ d) {h : aH} {r : Int32} {h' : aH} (H : f_X6_isUsable_18 h = some (r, h')) : Ex Γ gX6_isUsable d 18 [] [] h (some (.int r)) h' := by
  unfold f_X6_isUsable_18 at H
  refine x_iconst (v := 0) dX6_isUsable_18 (by decide) ?_
  exact t_X6_isUsable_19 hd H
def f_X6_isUsable (x0 : Nat) (h : aH) : Option (Int32 × aH) :=
  ko h x0 6 <|
  if (hI h x0 1) = 0 then
    f_X6_isUsable_18 h
  else
    if (hI h x0 7) = 0 then
      f_X6_isUsable_19 1 h
    else
      f_X6_isUsable_18 h
set_option maxRecDepth 100000 in
set_option maxHeartbeats 4000000 in
theorem t_X6_isUsable {Γ : gS} {d : Nat} (hd : 0 ≤ d) {x0 : Nat} {h : aH} {r : Int32} {h' : aH} (H : f_X6_isUsable x0 h = some (r, h')) : Mx Γ gX6_isUsable d [.ref x0] h (some (.int r)) h' := by
  refine Mx.of (by decide +kernel) (Nat.le_of_ble_eq_true rfl) ?_
  unfold f_X6_isUsable at H
  show Ex Γ gX6_isUsable d 0 [(0, .ref x0)] [] h (some (.int r)) h'
  refine x_aload_n dX6_isUsable_0 rfl 0 rfl ?_
  obtain ⟨c2, H⟩ := ko_o H
  refine x_getI fr_X6_15 dX6_isUsable_1 c2 rfl ?_
  refine x_if_eq (tgt := 18) dX6_isUsable_4 (by decide) (fun c3 => ?_) (fun c3 => ?_)
  · replace H := ite_p H c3
    refine Ex.sub [] rfl ?_
    exact t_X6_isUsable_18 hd H
  · replace H := ite_m H c3
    refine x_aload_n dX6_isUsable_7 rfl 0 rfl ?_
    refine x_getI fr_X6_34 dX6_isUsable_8 c2 rfl ?_
    refine x_if_ne (tgt := 18) dX6_isUsable_11 (by decide) (fun c4 => ?_) (fun c4 => ?_)
    · replace H := ite_m H c4
      refine Ex.sub [] rfl ?_
      exact t_X6_isUsable_18 hd H
    · replace H := ite_p H c4
      refine x_iconst (v := 1) dX6_isUsable_14 (by decide) ?_
      refine x_goto (tgt := 19) dX6_isUsable_15 (by decide) ?_
      refine Ex.sub [] rfl ?_
      exact t_X6_isUsable_19 hd H
def f_X6_covers_27 (s0 : Int32) (h : aH) : Option (Int32 × aH) :=
  chk (narrow .boolean (.int s0) = .int s0) <|
  some (s0, h)
set_option maxRecDepth 100000 in
set_option maxHeartbeats 4000000 in
theorem t_X6_covers_27 {Γ : gS} {d : Nat} (hd : 2 ≤ d) {s0 : Int32} {h : aH} {r : Int32} {h' : aH} (H : f_X6_covers_27 s0 h = some (r, h')) : Ex Γ gX6_covers d 27 [] [.int s0] h (some (.int r)) h' := by
  unfold f_X6_covers_27 at H
  obtain ⟨d, rfl⟩ : ∃ e, d = e + 1 := ⟨d - 1, by omega⟩
  obtain ⟨c1, H⟩ := chk_o H
  obtain ⟨rfl, rfl⟩ := so_1 H
  exact x_iret dX6_covers_27 rfl c1
def f_X6_covers_26 (h : aH) : Option (Int32 × aH) :=
  f_X6_covers_27 0 h
set_option maxRecDepth 100000 in
set_option maxHeartbeats 4000000 in
theorem t_X6_covers_26 {Γ : gS} {d : Nat} (hd : 2 ≤ d) {h : aH} {r : Int32} {h' : aH} (H : f_X6_covers_26 h = some (r, h')) : Ex Γ gX6_covers d 26 [] [] h (some (.int r)) h' := by
  unfold f_X6_covers_26 at H
  obtain ⟨d, rfl⟩ : ∃ e, d = e + 1 := ⟨d - 1, by omega⟩
  refine x_iconst (v := 0) dX6_covers_26 (by decide) ?_
  exact t_X6_covers_27 hd H
def f_X6_covers (x0 : Nat) (x1 : Int32) (x2 : Int32) (h : aH) : Option (Int32 × aH) :=
  ko h x0 6 <|
  bd (f_X6_base x0 x2 h) fun v2 h3 =>
  if x1 < v2 then
    f_X6_covers_26 h3
  else
    ko h3 x0 6 <|
    bd (f_X6_extent x0 x2 h3) fun v6 h7 =>
    if (v2 + v6) ≤ x1 then
      f_X6_covers_26 h7
    else
      f_X6_covers_27 1 h7
set_option maxRecDepth 100000 in
set_option maxHeartbeats 4000000 in
theorem t_X6_covers {Γ : gS} {d : Nat} (hd : 2 ≤ d) {x0 : Nat} {x1 : Int32} {x2 : Int32} {h : aH} {r : Int32} {h' : aH} (H : f_X6_covers x0 x1 x2 h = some (r, h')) : Mx Γ gX6_covers d [.ref x0, .int x1, .int x2] h (some (.int r)) h' := by
  refine Mx.of (by decide +kernel) (Nat.le_of_ble_eq_true rfl) ?_
  unfold f_X6_covers at H
  show Ex Γ gX6_covers d 0 [(0, .ref x0), (1, .int x1), (2, .int x2)] [] h (some (.int r)) h'
  obtain ⟨d, rfl⟩ : ∃ e, d = e + 1 := ⟨d - 1, by omega⟩
  refine x_aload_n dX6_covers_0 rfl 0 rfl ?_
  refine x_iload_n dX6_covers_1 rfl 2 rfl ?_
  obtain ⟨c11, H⟩ := ko_o H
  obtain ⟨v2, h3, hc4, H⟩ := bd_o H
  refine x_callVi (As := [.int x2]) (q := (RX6, TX6, 8)) dX6_covers_2 mi_X6_base lk_X6_51 im_X6_base se_X6_base rfl c11 rfl rfl (Nat.le_of_ble_eq_true rfl) (t_X6_base (by omega) hc4) ?_
  refine x_istore_n (lv' := [(3, .int v2), (0, .ref x0), (1, .int x1), (2, .int x2)]) dX6_covers_5 rfl (by decide) rfl rfl ?_
  refine x_iload_n dX6_covers_6 rfl 2 rfl ?_
  refine x_iload_n dX6_covers_7 rfl 0 rfl ?_
  refine x_icmp_lt (tgt := 26) dX6_covers_8 (by decide) (fun c5 => ?_) (fun c5 => ?_)
  · replace H := ite_p H c5
    refine Ex.sub [] rfl ?_
    exact t_X6_covers_26 hd H
  · replace H := ite_m H c5
    refine x_iload_n dX6_covers_11 rfl 2 rfl ?_
    refine x_iload_n dX6_covers_12 rfl 0 rfl ?_
    refine x_aload_n dX6_covers_13 rfl 1 rfl ?_
    refine x_iload_n dX6_covers_14 rfl 3 rfl ?_
    obtain ⟨c10, H⟩ := ko_o H
    obtain ⟨v6, h7, hc8, H⟩ := bd_o H
    refine x_callVi (As := [.int x2]) (q := (RX6, TX6, 8)) dX6_covers_15 mi_X6_extent lk_X6_55 im_X6_extent se_X6_extent rfl c10 rfl rfl (Nat.le_of_ble_eq_true rfl) (t_X6_extent (by omega) hc8) ?_
    refine x_iadd dX6_covers_18 ?_
    refine x_icmp_ge (tgt := 26) dX6_covers_19 (by decide) (fun c9 => ?_) (fun c9 => ?_)
    · replace H := ite_p H c9
      refine Ex.sub [] rfl ?_
      exact t_X6_covers_26 hd H
    · replace H := ite_m H c9
      refine x_iconst (v := 1) dX6_covers_22 (by decide) ?_
      refine x_goto (tgt := 27) dX6_covers_23 (by decide) ?_
      refine Ex.sub [] rfl ?_
      exact t_X6_covers_27 hd H
def f_X6_keepsBounds_34 (s0 : Int32) (h : aH) : Option (Int32 × aH) :=
  chk (narrow .boolean (.int s0) = .int s0) <|
  some (s0, h)
set_option maxRecDepth 100000 in
set_option maxHeartbeats 4000000 in
theorem t_X6_keepsBounds_34 {Γ : gS} {d : Nat} (hd : 1 ≤ d) {s0 : Int32} {h : aH} {r : Int32} {h' : aH} (H : f_X6_keepsBounds_34 s0 h = some (r, h')) : Ex Γ gX6_keepsBounds d 34 [] [.int s0] h (some (.int r)) h' := by
  unfold f_X6_keepsBounds_34 at H
  obtain ⟨d, rfl⟩ : ∃ e, d = e + 1 := ⟨d - 1, by omega⟩
  obtain ⟨c1, H⟩ := chk_o H
  obtain ⟨rfl, rfl⟩ := so_1 H
  exact x_iret dX6_keepsBounds_34 rfl c1
def f_X6_keepsBounds (x0 : Nat) (x1 : Int32) (x2 : Int32) (h : aH) : Option (Int32 × aH) :=
  ko h x0 6 <|
  nm (((hI h x0 2) + x1) &&& 4095) fun (v3 : Int32) =>
  bd (f_X6_baseFrom x0 v3 x2 h) fun v4 h5 =>
  ko h5 x0 6 <|
  bd (f_X6_baseFrom x0 (hI h5 x0 2) x2 h5) fun v8 h9 =>
  if v4 = v8 then
    f_X6_keepsBounds_34 1 h9
  else
    f_X6_keepsBounds_34 0 h9
set_option maxRecDepth 100000 in
set_option maxHeartbeats 4000000 in
theorem t_X6_keepsBounds {Γ : gS} {d : Nat} (hd : 1 ≤ d) {x0 : Nat} {x1 : Int32} {x2 : Int32} {h : aH} {r : Int32} {h' : aH} (H : f_X6_keepsBounds x0 x1 x2 h = some (r, h')) : Mx Γ gX6_keepsBounds d [.ref x0, .int x1, .int x2] h (some (.int r)) h' := by
  refine Mx.of (by decide +kernel) (Nat.le_of_ble_eq_true rfl) ?_
  unfold f_X6_keepsBounds at H
  show Ex Γ gX6_keepsBounds d 0 [(0, .ref x0), (1, .int x1), (2, .int x2)] [] h (some (.int r)) h'
  obtain ⟨d, rfl⟩ : ∃ e, d = e + 1 := ⟨d - 1, by omega⟩
  refine x_aload_n dX6_keepsBounds_0 rfl 0 rfl ?_
  obtain ⟨c2, H⟩ := ko_o H
  refine x_getI fr_X6_18 dX6_keepsBounds_1 c2 rfl ?_
  refine x_iload_n dX6_keepsBounds_4 rfl 1 rfl ?_
  refine x_iadd dX6_keepsBounds_5 ?_
  refine x_sipush (v := 4095) dX6_keepsBounds_6 (by decide) ?_
  refine x_iand dX6_keepsBounds_9 ?_
  obtain ⟨v3, ev3, H⟩ := nm_o H
  refine x_istore_n (lv' := [(3, .int v3), (0, .ref x0), (1, .int x1), (2, .int x2)]) dX6_keepsBounds_10 rfl (by decide) ev3 rfl ?_
  refine x_aload_n dX6_keepsBounds_11 rfl 1 rfl ?_
  refine x_iload_n dX6_keepsBounds_12 rfl 0 rfl ?_
  refine x_iload_n dX6_keepsBounds_13 rfl 3 rfl ?_
  obtain ⟨v4, h5, hc6, H⟩ := bd_o H
  refine x_callVi (As := [.int v3, .int x2]) (q := (RX6, TX6, 8)) dX6_keepsBounds_14 mi_X6_baseFrom lk_X6_48 im_X6_baseFrom se_X6_baseFrom rfl c2 rfl rfl (Nat.le_of_ble_eq_true rfl) (t_X6_baseFrom (by omega) hc6) ?_
  refine x_aload_n dX6_keepsBounds_17 rfl 1 rfl ?_
  refine x_aload_n dX6_keepsBounds_18 rfl 1 rfl ?_
  obtain ⟨c7, H⟩ := ko_o H
  refine x_getI fr_X6_18 dX6_keepsBounds_19 c7 rfl ?_
  refine x_iload_n dX6_keepsBounds_22 rfl 3 rfl ?_
  obtain ⟨v8, h9, hc10, H⟩ := bd_o H
  refine x_callVi (As := [.int (hI h5 x0 2), .int x2]) (q := (RX6, TX6, 8)) dX6_keepsBounds_23 mi_X6_baseFrom lk_X6_48 im_X6_baseFrom se_X6_baseFrom rfl c7 rfl rfl (Nat.le_of_ble_eq_true rfl) (t_X6_baseFrom (by omega) hc10) ?_
  refine x_icmp_ne (tgt := 33) dX6_keepsBounds_26 (by decide) (fun c11 => ?_) (fun c11 => ?_)
  · replace H := ite_m H c11
    refine x_iconst (v := 0) dX6_keepsBounds_33 (by decide) ?_
    refine Ex.sub [] rfl ?_
    exact t_X6_keepsBounds_34 hd H
  · replace H := ite_p H c11
    refine x_iconst (v := 1) dX6_keepsBounds_29 (by decide) ?_
    refine x_goto (tgt := 34) dX6_keepsBounds_30 (by decide) ?_
    refine Ex.sub [] rfl ?_
    exact t_X6_keepsBounds_34 hd H
def f_X6_isQuick_73 (s0 : Int32) (h : aH) : Option (Int32 × aH) :=
  chk (narrow .boolean (.int s0) = .int s0) <|
  some (s0, h)
set_option maxRecDepth 100000 in
set_option maxHeartbeats 4000000 in
theorem t_X6_isQuick_73 {Γ : gS} {d : Nat} (hd : 0 ≤ d) {s0 : Int32} {h : aH} {r : Int32} {h' : aH} (H : f_X6_isQuick_73 s0 h = some (r, h')) : Ex Γ gX6_isQuick d 73 [] [.int s0] h (some (.int r)) h' := by
  unfold f_X6_isQuick_73 at H
  obtain ⟨c1, H⟩ := chk_o H
  obtain ⟨rfl, rfl⟩ := so_1 H
  exact x_iret dX6_isQuick_73 rfl c1
def f_X6_isQuick_97 (s0 : Int32) (h : aH) : Option (Int32 × aH) :=
  chk (narrow .boolean (.int s0) = .int s0) <|
  some (s0, h)
set_option maxRecDepth 100000 in
set_option maxHeartbeats 4000000 in
theorem t_X6_isQuick_97 {Γ : gS} {d : Nat} (hd : 0 ≤ d) {s0 : Int32} {h : aH} {r : Int32} {h' : aH} (H : f_X6_isQuick_97 s0 h = some (r, h')) : Ex Γ gX6_isQuick d 97 [] [.int s0] h (some (.int r)) h' := by
  unfold f_X6_isQuick_97 at H
  obtain ⟨c2, H⟩ := chk_o H
  obtain ⟨rfl, rfl⟩ := so_1 H
  exact x_iret dX6_isQuick_97 rfl c2
def f_X6_isQuick_96 (h : aH) : Option (Int32 × aH) :=
  f_X6_isQuick_97 0 h
set_option maxRecDepth 100000 in
set_option maxHeartbeats 4000000 in
theorem t_X6_isQuick_96 {Γ : gS} {d : Nat} (hd : 0 ≤ d) {h : aH} {r : Int32} {h' : aH} (H : f_X6_isQuick_96 h = some (r, h')) : Ex Γ gX6_isQuick d 96 [] [] h (some (.int r)) h' := by
  unfold f_X6_isQuick_96 at H
  refine x_iconst (v := 0) dX6_isQuick_96 (by decide) ?_
  exact t_X6_isQuick_97 hd H
def f_X6_isQuick (x0 : Nat) (x1 : Int32) (x2 : Int32) (h : aH) : Option (Int32 × aH) :=
  nm ((1 <<< (x2 &&& 31)) - 1) fun (v3 : Int32) =>
  ko h x0 6 <|
  nm (x1 >>> (((hI h x0 3) + x2) &&& 31)) fun (v5 : Int32) =>
  nm ((x1 >>> ((hI h x0 3) &&& 31)) &&& v3) fun (v6 : Int32) =>
  nm ((hI h x0 4) - (1 <<< ((x2 - 2) &&& 31))) fun (v7 : Int32) =>
  nm ((v7 - ((hI h x0 2) >>> ((hI h x0 3) &&& 31))) &&& v3) fun (v8 : Int32) =>
  if v5 = 0 then
    if (v8 - 1) ≤ v6 then
      f_X6_isQuick_73 0 h
    else
      f_X6_isQuick_73 1 h
  else
    if v5 = (-1) then
      if v6 < v8 then
        f_X6_isQuick_96 h
      else
        if v8 = 0 then
          f_X6_isQuick_96 h
        else
          f_X6_isQuick_97 1 h
    else
      f_X6_isQuick_96 h
set_option maxRecDepth 100000 in
set_option maxHeartbeats 4000000 in
theorem t_X6_isQuick {Γ : gS} {d : Nat} (hd : 0 ≤ d) {x0 : Nat} {x1 : Int32} {x2 : Int32} {h : aH} {r : Int32} {h' : aH} (H : f_X6_isQuick x0 x1 x2 h = some (r, h')) : Mx Γ gX6_isQuick d [.ref x0, .int x1, .int x2] h (some (.int r)) h' := by
  refine Mx.of (by decide +kernel) (Nat.le_of_ble_eq_true rfl) ?_
  unfold f_X6_isQuick at H
  show Ex Γ gX6_isQuick d 0 [(0, .ref x0), (1, .int x1), (2, .int x2)] [] h (some (.int r)) h'
  refine x_iconst (v := 1) dX6_isQuick_0 (by decide) ?_
  refine x_iload_n dX6_isQuick_1 rfl 2 rfl ?_
  refine x_ishl dX6_isQuick_2 ?_
  refine x_iconst (v := 1) dX6_isQuick_3 (by decide) ?_
  refine x_isub dX6_isQuick_4 ?_
  obtain ⟨v3, ev3, H⟩ := nm_o H
  refine x_istore_n (lv' := [(3, .int v3), (0, .ref x0), (1, .int x1), (2, .int x2)]) dX6_isQuick_5 rfl (by decide) ev3 rfl ?_
  refine x_iload_n dX6_isQuick_6 rfl 2 rfl ?_
  refine x_aload_n dX6_isQuick_7 rfl 1 rfl ?_
  obtain ⟨c4, H⟩ := ko_o H
  refine x_getI fr_X6_22 dX6_isQuick_8 c4 rfl ?_
  refine x_iload_n dX6_isQuick_11 rfl 3 rfl ?_
  refine x_iadd dX6_isQuick_12 ?_
  refine x_ishr dX6_isQuick_13 ?_
  obtain ⟨v5, ev5, H⟩ := nm_o H
  refine x_istore (lv' := [(4, .int v5), (3, .int v3), (0, .ref x0), (1, .int x1), (2, .int x2)]) dX6_isQuick_14 (by decide) ev5 rfl ?_
  refine x_iload_n dX6_isQuick_16 rfl 3 rfl ?_
  refine x_aload_n dX6_isQuick_17 rfl 2 rfl ?_
  refine x_getI fr_X6_22 dX6_isQuick_18 c4 rfl ?_
  refine x_ishr dX6_isQuick_21 ?_
  refine x_iload_n dX6_isQuick_22 rfl 1 rfl ?_
  refine x_iand dX6_isQuick_23 ?_
  obtain ⟨v6, ev6, H⟩ := nm_o H
  refine x_istore (lv' := [(5, .int v6), (4, .int v5), (3, .int v3), (0, .ref x0), (1, .int x1), (2, .int x2)]) dX6_isQuick_24 (by decide) ev6 rfl ?_
  refine x_aload_n dX6_isQuick_26 rfl 3 rfl ?_
  refine x_getI fr_X6_25 dX6_isQuick_27 c4 rfl ?_
  refine x_iconst (v := 1) dX6_isQuick_30 (by decide) ?_
  refine x_iload_n dX6_isQuick_31 rfl 5 rfl ?_
  refine x_iconst (v := 2) dX6_isQuick_32 (by decide) ?_
  refine x_isub dX6_isQuick_33 ?_
  refine x_ishl dX6_isQuick_34 ?_
  refine x_isub dX6_isQuick_35 ?_
  obtain ⟨v7, ev7, H⟩ := nm_o H
  refine x_istore (lv' := [(6, .int v7), (5, .int v6), (4, .int v5), (3, .int v3), (0, .ref x0), (1, .int x1), (2, .int x2)]) dX6_isQuick_36 (by decide) ev7 rfl ?_
  refine x_iload dX6_isQuick_38 0 rfl ?_
  refine x_aload_n dX6_isQuick_40 rfl 4 rfl ?_
  refine x_getI fr_X6_18 dX6_isQuick_41 c4 rfl ?_
  refine x_aload_n dX6_isQuick_44 rfl 4 rfl ?_
  refine x_getI fr_X6_22 dX6_isQuick_45 c4 rfl ?_
  refine x_ishr dX6_isQuick_48 ?_
  refine x_isub dX6_isQuick_49 ?_
  refine x_iload_n dX6_isQuick_50 rfl 3 rfl ?_
  refine x_iand dX6_isQuick_51 ?_
  obtain ⟨v8, ev8, H⟩ := nm_o H
  refine x_istore (lv' := [(7, .int v8), (6, .int v7), (5, .int v6), (4, .int v5), (3, .int v3), (0, .ref x0), (1, .int x1), (2, .int x2)]) dX6_isQuick_52 (by decide) ev8 rfl ?_
  refine x_iload dX6_isQuick_54 3 rfl ?_
  refine x_if_ne (tgt := 74) dX6_isQuick_56 (by decide) (fun c9 => ?_) (fun c9 => ?_)
  · replace H := ite_m H c9
    refine x_iload dX6_isQuick_74 3 rfl ?_
    refine x_iconst (v := (-1)) dX6_isQuick_76 (by decide) ?_
    refine x_icmp_ne (tgt := 96) dX6_isQuick_77 (by decide) (fun c10 => ?_) (fun c10 => ?_)
    · replace H := ite_m H c10
      refine Ex.sub [] rfl ?_
      exact t_X6_isQuick_96 hd H
    · replace H := ite_p H c10
      refine x_iload dX6_isQuick_80 2 rfl ?_
      refine x_iload dX6_isQuick_82 0 rfl ?_
      refine x_icmp_lt (tgt := 96) dX6_isQuick_84 (by decide) (fun c11 => ?_) (fun c11 => ?_)
      · replace H := ite_p H c11
        refine Ex.sub [] rfl ?_
        exact t_X6_isQuick_96 hd H
      · replace H := ite_m H c11
        refine x_iload dX6_isQuick_87 0 rfl ?_
        refine x_if_eq (tgt := 96) dX6_isQuick_89 (by decide) (fun c12 => ?_) (fun c12 => ?_)
        · replace H := ite_p H c12
          refine Ex.sub [] rfl ?_
          exact t_X6_isQuick_96 hd H
        · replace H := ite_m H c12
          refine x_iconst (v := 1) dX6_isQuick_92 (by decide) ?_
          refine x_goto (tgt := 97) dX6_isQuick_93 (by decide) ?_
          refine Ex.sub [] rfl ?_
          exact t_X6_isQuick_97 hd H
  · replace H := ite_p H c9
    refine x_iload dX6_isQuick_59 2 rfl ?_
    refine x_iload dX6_isQuick_61 0 rfl ?_
    refine x_iconst (v := 1) dX6_isQuick_63 (by decide) ?_
    refine x_isub dX6_isQuick_64 ?_
    refine x_icmp_ge (tgt := 72) dX6_isQuick_65 (by decide) (fun c13 => ?_) (fun c13 => ?_)
    · replace H := ite_p H c13
      refine x_iconst (v := 0) dX6_isQuick_72 (by decide) ?_
      refine Ex.sub [] rfl ?_
      exact t_X6_isQuick_73 hd H
    · replace H := ite_m H c13
      refine x_iconst (v := 1) dX6_isQuick_68 (by decide) ?_
      refine x_goto (tgt := 73) dX6_isQuick_69 (by decide) ?_
      refine Ex.sub [] rfl ?_
      exact t_X6_isQuick_73 hd H
def f_X6_windowSize (x0 : Nat) (x1 : Int32) (h : aH) : Option (Int32 × aH) :=
  ko h x0 6 <|
  bd (f_J9_min_7cf53 4096 (1 <<< (((hI h x0 3) + x1) &&& 31)) h) fun v2 h3 =>
  some (v2, h3)
set_option maxRecDepth 100000 in
set_option maxHeartbeats 4000000 in
theorem t_X6_windowSize {Γ : gS} {d : Nat} (hd : 1 ≤ d) {x0 : Nat} {x1 : Int32} {h : aH} {r : Int32} {h' : aH} (H : f_X6_windowSize x0 x1 h = some (r, h')) : Mx Γ gX6_windowSize d [.ref x0, .int x1] h (some (.int r)) h' := by
  refine Mx.of (by decide +kernel) (Nat.le_of_ble_eq_true rfl) ?_
  unfold f_X6_windowSize at H
  show Ex Γ gX6_windowSize d 0 [(0, .ref x0), (1, .int x1)] [] h (some (.int r)) h'
  obtain ⟨d, rfl⟩ : ∃ e, d = e + 1 := ⟨d - 1, by omega⟩
  refine x_sipush (v := 4096) dX6_windowSize_0 (by decide) ?_
  refine x_iconst (v := 1) dX6_windowSize_3 (by decide) ?_
  refine x_aload_n dX6_windowSize_4 rfl 0 rfl ?_
  obtain ⟨c1, H⟩ := ko_o H
  refine x_getI fr_X6_22 dX6_windowSize_5 c1 rfl ?_
  refine x_iload_n dX6_windowSize_8 rfl 1 rfl ?_
  refine x_iadd dX6_windowSize_9 ?_
  refine x_ishl dX6_windowSize_10 ?_
  obtain ⟨v2, h3, hc4, H⟩ := bd_o H
  refine x_callSi (As := [.int 4096, .int (1 <<< (((hI h x0 3) + x1) &&& 31))]) dX6_windowSize_11 mi_J9_min_7cf53 lk_X6_58 sm_J9_min_7cf53 rfl rfl (Nat.le_of_ble_eq_true rfl) (t_J9_min_7cf53 (by omega) hc4) ?_
  obtain ⟨rfl, rfl⟩ := so_1 H
  exact x_iret dX6_windowSize_14 rfl rfl
def f_X6_windowStart (x0 : Nat) (x1 : Int32) (h : aH) : Option (Int32 × aH) :=
  ko h x0 6 <|
  bd (f_X6_base x0 x1 h) fun v1 h2 =>
  ko h2 x0 6 <|
  some ((v1 - (1 <<< ((((hI h2 x0 3) + x1) - 2) &&& 31))) &&& 4095, h2)
set_option maxRecDepth 100000 in
set_option maxHeartbeats 4000000 in
theorem t_X6_windowStart {Γ : gS} {d : Nat} (hd : 2 ≤ d) {x0 : Nat} {x1 : Int32} {h : aH} {r : Int32} {h' : aH} (H : f_X6_windowStart x0 x1 h = some (r, h')) : Mx Γ gX6_windowStart d [.ref x0, .int x1] h (some (.int r)) h' := by
  refine Mx.of (by decide +kernel) (Nat.le_of_ble_eq_true rfl) ?_
  unfold f_X6_windowStart at H
  show Ex Γ gX6_windowStart d 0 [(0, .ref x0), (1, .int x1)] [] h (some (.int r)) h'
  obtain ⟨d, rfl⟩ : ∃ e, d = e + 1 := ⟨d - 1, by omega⟩
  refine x_aload_n dX6_windowStart_0 rfl 0 rfl ?_
  refine x_iload_n dX6_windowStart_1 rfl 1 rfl ?_
  obtain ⟨c5, H⟩ := ko_o H
  obtain ⟨v1, h2, hc3, H⟩ := bd_o H
  refine x_callVi (As := [.int x1]) (q := (RX6, TX6, 8)) dX6_windowStart_2 mi_X6_base lk_X6_51 im_X6_base se_X6_base rfl c5 rfl rfl (Nat.le_of_ble_eq_true rfl) (t_X6_base (by omega) hc3) ?_
  refine x_iconst (v := 1) dX6_windowStart_5 (by decide) ?_
  refine x_aload_n dX6_windowStart_6 rfl 0 rfl ?_
  obtain ⟨c4, H⟩ := ko_o H
  refine x_getI fr_X6_22 dX6_windowStart_7 c4 rfl ?_
  refine x_iload_n dX6_windowStart_10 rfl 1 rfl ?_
  refine x_iadd dX6_windowStart_11 ?_
  refine x_iconst (v := 2) dX6_windowStart_12 (by decide) ?_
  refine x_isub dX6_windowStart_13 ?_
  refine x_ishl dX6_windowStart_14 ?_
  refine x_isub dX6_windowStart_15 ?_
  refine x_sipush (v := 4095) dX6_windowStart_16 (by decide) ?_
  refine x_iand dX6_windowStart_19 ?_
  obtain ⟨rfl, rfl⟩ := so_1 H
  exact x_iret dX6_windowStart_20 rfl rfl
def f_X6_countSlow_32 (k5 : Nat → Int32 → Int32 → Int32 → aH → Option (Int32 × aH)) (x0 : Nat) (x1 : Int32) (x2 : Int32) (x3 : Int32) (h : aH) : Option (Int32 × aH) :=
  nm (x3 + 1) fun (v1 : Int32) =>
  k5 x0 x1 x2 v1 h
set_option maxRecDepth 100000 in
set_option maxHeartbeats 4000000 in
theorem t_X6_countSlow_32 {Γ : gS} {d : Nat} (hd : 2 ≤ d) {k5 : Nat → Int32 → Int32 → Int32 → aH → Option (Int32 × aH)} (hk5 : ∀ {x0 : Nat} {x1 : Int32} {x2 : Int32} {x3 : Int32} {h : aH} {r : Int32} {h' : aH}, k5 x0 x1 x2 x3 h = some (r, h') → Ex Γ gX6_countSlow d 5 [(0, .ref x0), (1, .int x1), (2, .int x2), (3, .int x3)] [] h (some (.int r)) h') {x0 : Nat} {x1 : Int32} {x2 : Int32} {x3 : Int32} {h : aH} {r : Int32} {h' : aH} (H : f_X6_countSlow_32 k5 x0 x1 x2 x3 h = some (r, h')) : Ex Γ gX6_countSlow d 32 [(0, .ref x0), (1, .int x1), (2, .int x2), (3, .int x3)] [] h (some (.int r)) h' := by
  unfold f_X6_countSlow_32 at H
  obtain ⟨d, rfl⟩ : ∃ e, d = e + 1 := ⟨d - 1, by omega⟩
  obtain ⟨v1, ev1, H⟩ := nm_o H
  refine x_iinc (v := v1) (lv' := [(3, .int v1), (0, .ref x0), (1, .int x1), (2, .int x2)]) dX6_countSlow_32 3 rfl (by decide) ev1 rfl ?_
  refine x_goto (tgt := 5) dX6_countSlow_35 (by decide) ?_
  refine Ex.sub [1, 2, 3, 0] rfl ?_
  exact hk5 H
def b_X6_countSlow_5 (k5 : Nat → Int32 → Int32 → Int32 → aH → Option (Int32 × aH)) (x0 : Nat) (x1 : Int32) (x2 : Int32) (x3 : Int32) (h : aH) : Option (Int32 × aH) :=
  if 64 ≤ x3 then
    some (x2, h)
  else
    ko h x0 6 <|
    bd (f_X6_keepsBounds x0 x3 x1 h) fun v3 h4 =>
    if v3 = 0 then
      f_X6_countSlow_32 k5 x0 x1 x2 x3 h4
    else
      ko h4 x0 6 <|
      bd (f_X6_isQuick x0 x3 x1 h4) fun v7 h8 =>
      if v7 = 0 then
        nm (x2 + 1) fun (v11 : Int32) =>
        f_X6_countSlow_32 k5 x0 x1 v11 x3 h8
      else
        f_X6_countSlow_32 k5 x0 x1 x2 x3 h8
set_option maxRecDepth 100000 in
set_option maxHeartbeats 4000000 in
theorem tb_X6_countSlow_5 {Γ : gS} {d : Nat} (hd : 2 ≤ d) {k5 : Nat → Int32 → Int32 → Int32 → aH → Option (Int32 × aH)} (hk5 : ∀ {x0 : Nat} {x1 : Int32} {x2 : Int32} {x3 : Int32} {h : aH} {r : Int32} {h' : aH}, k5 x0 x1 x2 x3 h = some (r, h') → Ex Γ gX6_countSlow d 5 [(0, .ref x0), (1, .int x1), (2, .int x2), (3, .int x3)] [] h (some (.int r)) h') {x0 : Nat} {x1 : Int32} {x2 : Int32} {x3 : Int32} {h : aH} {r : Int32} {h' : aH} (H : b_X6_countSlow_5 k5 x0 x1 x2 x3 h = some (r, h')) : Ex Γ gX6_countSlow d 5 [(0, .ref x0), (1, .int x1), (2, .int x2), (3, .int x3)] [] h (some (.int r)) h' := by
  unfold b_X6_countSlow_5 at H
  obtain ⟨d, rfl⟩ : ∃ e, d = e + 1 := ⟨d - 1, by omega⟩
  refine x_iload_n dX6_countSlow_5 rfl 3 rfl ?_
  refine x_bipush (v := 64) dX6_countSlow_6 (by decide) ?_
  refine x_icmp_ge (tgt := 38) dX6_countSlow_8 (by decide) (fun c2 => ?_) (fun c2 => ?_)
  · replace H := ite_p H c2
    refine x_iload_n dX6_countSlow_38 rfl 2 rfl ?_
    obtain ⟨rfl, rfl⟩ := so_1 H
    exact x_iret dX6_countSlow_39 rfl rfl
  · replace H := ite_m H c2
    refine x_aload_n dX6_countSlow_11 rfl 0 rfl ?_
    refine x_iload_n dX6_countSlow_12 rfl 3 rfl ?_
    refine x_iload_n dX6_countSlow_13 rfl 1 rfl ?_
    obtain ⟨c13, H⟩ := ko_o H
    obtain ⟨v3, h4, hc5, H⟩ := bd_o H
    refine x_callVi (As := [.int x3, .int x1]) (q := (RX6, TX6, 8)) dX6_countSlow_14 mi_X6_keepsBounds lk_X6_65 im_X6_keepsBounds se_X6_keepsBounds rfl c13 rfl rfl (Nat.le_of_ble_eq_true rfl) (t_X6_keepsBounds (by omega) hc5) ?_
    refine x_if_eq (tgt := 32) dX6_countSlow_17 (by decide) (fun c6 => ?_) (fun c6 => ?_)
    · replace H := ite_p H c6
      exact t_X6_countSlow_32 hd hk5 H
    · replace H := ite_m H c6
      refine x_aload_n dX6_countSlow_20 rfl 0 rfl ?_
      refine x_iload_n dX6_countSlow_21 rfl 3 rfl ?_
      refine x_iload_n dX6_countSlow_22 rfl 1 rfl ?_
      obtain ⟨c12, H⟩ := ko_o H
      obtain ⟨v7, h8, hc9, H⟩ := bd_o H
      refine x_callVi (As := [.int x3, .int x1]) (q := (RX6, TX6, 8)) dX6_countSlow_23 mi_X6_isQuick lk_X6_69 im_X6_isQuick se_X6_isQuick rfl c12 rfl rfl (Nat.le_of_ble_eq_true rfl) (t_X6_isQuick (by omega) hc9) ?_
      refine x_if_ne (tgt := 32) dX6_countSlow_26 (by decide) (fun c10 => ?_) (fun c10 => ?_)
      · replace H := ite_m H c10
        exact t_X6_countSlow_32 hd hk5 H
      · replace H := ite_p H c10
        obtain ⟨v11, ev11, H⟩ := nm_o H
        refine x_iinc (v := v11) (lv' := [(2, .int v11), (0, .ref x0), (1, .int x1), (3, .int x3)]) dX6_countSlow_29 2 rfl (by decide) ev11 rfl ?_
        refine Ex.sub [1, 2, 0, 3] rfl ?_
        exact t_X6_countSlow_32 hd hk5 H
def f_X6_countSlow_5 : Nat → Nat → Int32 → Int32 → Int32 → aH → Option (Int32 × aH)
  | 0 => fun _ _ _ _ _ => none
  | n + 1 => b_X6_countSlow_5 (f_X6_countSlow_5 n)
set_option maxRecDepth 100000 in
set_option maxHeartbeats 4000000 in
theorem t_X6_countSlow_5 {Γ : gS} {d : Nat} (hd : 2 ≤ d) (n : Nat) : ∀ {x0 : Nat} {x1 : Int32} {x2 : Int32} {x3 : Int32} {h : aH} {r : Int32} {h' : aH}, f_X6_countSlow_5 n x0 x1 x2 x3 h = some (r, h') → Ex Γ gX6_countSlow d 5 [(0, .ref x0), (1, .int x1), (2, .int x2), (3, .int x3)] [] h (some (.int r)) h' := by
  induction n with
  | zero => intro x0 x1 x2 x3 h r h' H; cases H
  | succ n ih => intro x0 x1 x2 x3 h r h' H; exact tb_X6_countSlow_5 hd ih H
def f_X6_countSlow (x0 : Nat) (x1 : Int32) (h : aH) : Option (Int32 × aH) :=
  f_X6_countSlow_5 FU x0 x1 0 (-64) h
set_option maxRecDepth 100000 in
set_option maxHeartbeats 4000000 in
theorem t_X6_countSlow {Γ : gS} {d : Nat} (hd : 2 ≤ d) {x0 : Nat} {x1 : Int32} {h : aH} {r : Int32} {h' : aH} (H : f_X6_countSlow x0 x1 h = some (r, h')) : Mx Γ gX6_countSlow d [.ref x0, .int x1] h (some (.int r)) h' := by
  refine Mx.of (by decide +kernel) (Nat.le_of_ble_eq_true rfl) ?_
  unfold f_X6_countSlow at H
  show Ex Γ gX6_countSlow d 0 [(0, .ref x0), (1, .int x1)] [] h (some (.int r)) h'
  obtain ⟨d, rfl⟩ : ∃ e, d = e + 1 := ⟨d - 1, by omega⟩
  refine x_iconst (v := 0) dX6_countSlow_0 (by decide) ?_
  refine x_istore_n (lv' := [(2, .int 0), (0, .ref x0), (1, .int x1)]) dX6_countSlow_1 rfl (by decide) rfl rfl ?_
  refine x_bipush (v := (-64)) dX6_countSlow_2 (by decide) ?_
  refine x_istore_n (lv' := [(3, .int (-64)), (2, .int 0), (0, .ref x0), (1, .int x1)]) dX6_countSlow_4 rfl (by decide) rfl rfl ?_
  refine Ex.sub [2, 3, 1, 0] rfl ?_
  exact t_X6_countSlow_5 hd FU H
def f_X6_canNarrow_23 (h : aH) : Option (Int32 × aH) :=
  some (0, h)
set_option maxRecDepth 100000 in
set_option maxHeartbeats 4000000 in
theorem t_X6_canNarrow_23 {Γ : gS} {d : Nat} (hd : 3 ≤ d) {h : aH} {r : Int32} {h' : aH} (H : f_X6_canNarrow_23 h = some (r, h')) : Ex Γ gX6_canNarrow d 23 [] [] h (some (.int r)) h' := by
  unfold f_X6_canNarrow_23 at H
  obtain ⟨d, rfl⟩ : ∃ e, d = e + 1 := ⟨d - 1, by omega⟩
  refine x_iconst (v := 0) dX6_canNarrow_23 (by decide) ?_
  obtain ⟨rfl, rfl⟩ := so_1 H
  exact x_iret dX6_canNarrow_24 rfl (by decide)
def f_X6_canNarrow_86 (s0 : Int32) (h : aH) : Option (Int32 × aH) :=
  chk (narrow .boolean (.int s0) = .int s0) <|
  some (s0, h)
set_option maxRecDepth 100000 in
set_option maxHeartbeats 4000000 in
theorem t_X6_canNarrow_86 {Γ : gS} {d : Nat} (hd : 3 ≤ d) {s0 : Int32} {h : aH} {r : Int32} {h' : aH} (H : f_X6_canNarrow_86 s0 h = some (r, h')) : Ex Γ gX6_canNarrow d 86 [] [.int s0] h (some (.int r)) h' := by
  unfold f_X6_canNarrow_86 at H
  obtain ⟨d, rfl⟩ : ∃ e, d = e + 1 := ⟨d - 1, by omega⟩
  obtain ⟨c1, H⟩ := chk_o H
  obtain ⟨rfl, rfl⟩ := so_1 H
  exact x_iret dX6_canNarrow_86 rfl c1
def f_X6_canNarrow_85 (h : aH) : Option (Int32 × aH) :=
  f_X6_canNarrow_86 0 h
set_option maxRecDepth 100000 in
set_option maxHeartbeats 4000000 in
theorem t_X6_canNarrow_85 {Γ : gS} {d : Nat} (hd : 3 ≤ d) {h : aH} {r : Int32} {h' : aH} (H : f_X6_canNarrow_85 h = some (r, h')) : Ex Γ gX6_canNarrow d 85 [] [] h (some (.int r)) h' := by
  unfold f_X6_canNarrow_85 at H
  obtain ⟨d, rfl⟩ : ∃ e, d = e + 1 := ⟨d - 1, by omega⟩
  refine x_iconst (v := 0) dX6_canNarrow_85 (by decide) ?_
  exact t_X6_canNarrow_86 hd H
def f_X6_canNarrow (x0 : Nat) (x1 : Int32) (x2 : Int32) (h : aH) : Option (Int32 × aH) :=
  ko h x0 6 <|
  bd (f_X6_isUsable x0 h) fun v2 h3 =>
  if v2 = 0 then
    f_X6_canNarrow_23 h3
  else
    if x1 < 0 then
      f_X6_canNarrow_23 h3
    else
      ko h3 x0 6 <|
      if x1 ≤ (4096 - (hI h3 x0 2)) then
        bd (f_X6_leastExponent (hI h3 x0 2) ((hI h3 x0 2) + x1) x2 h3) fun v9 h10 =>
        ko h10 x0 6 <|
        bd (f_X6_base x0 x2 h10) fun v12 h13 =>
        ko h13 x0 6 <|
        bd (f_X6_down (hI h13 x0 2) v9 h13) fun v16 h17 =>
        if v16 < v12 then
          f_X6_canNarrow_85 h17
        else
          ko h17 x0 6 <|
          bd (f_X6_up ((hI h17 x0 2) + x1) v9 h17) fun v21 h22 =>
          ko h22 x0 6 <|
          bd (f_X6_extent x0 x2 h22) fun v24 h25 =>
          if (v12 + v24) < v21 then
            f_X6_canNarrow_85 h25
          else
            f_X6_canNarrow_86 1 h25
      else
        f_X6_canNarrow_23 h3
set_option maxRecDepth 100000 in
set_option maxHeartbeats 4000000 in
theorem t_X6_canNarrow {Γ : gS} {d : Nat} (hd : 3 ≤ d) {x0 : Nat} {x1 : Int32} {x2 : Int32} {h : aH} {r : Int32} {h' : aH} (H : f_X6_canNarrow x0 x1 x2 h = some (r, h')) : Mx Γ gX6_canNarrow d [.ref x0, .int x1, .int x2] h (some (.int r)) h' := by
  refine Mx.of (by decide +kernel) (Nat.le_of_ble_eq_true rfl) ?_
  unfold f_X6_canNarrow at H
  show Ex Γ gX6_canNarrow d 0 [(0, .ref x0), (1, .int x1), (2, .int x2)] [] h (some (.int r)) h'
  obtain ⟨d, rfl⟩ : ∃ e, d = e + 1 := ⟨d - 1, by omega⟩
  refine x_aload_n dX6_canNarrow_0 rfl 0 rfl ?_
  obtain ⟨c30, H⟩ := ko_o H
  obtain ⟨v2, h3, hc4, H⟩ := bd_o H
  refine x_callVi (As := []) (q := (RX6, TX6, 8)) dX6_canNarrow_1 mi_X6_isUsable lk_X6_72 im_X6_isUsable se_X6_isUsable rfl c30 rfl rfl (Nat.le_of_ble_eq_true rfl) (t_X6_isUsable (by omega) hc4) ?_
  refine x_if_eq (tgt := 23) dX6_canNarrow_4 (by decide) (fun c5 => ?_) (fun c5 => ?_)
  · replace H := ite_p H c5
    refine Ex.sub [] rfl ?_
    exact t_X6_canNarrow_23 hd H
  · replace H := ite_m H c5
    refine x_iload_n dX6_canNarrow_7 rfl 1 rfl ?_
    refine x_if_lt (tgt := 23) dX6_canNarrow_8 (by decide) (fun c6 => ?_) (fun c6 => ?_)
    · replace H := ite_p H c6
      refine Ex.sub [] rfl ?_
      exact t_X6_canNarrow_23 hd H
    · replace H := ite_m H c6
      refine x_iload_n dX6_canNarrow_11 rfl 1 rfl ?_
      refine x_sipush (v := 4096) dX6_canNarrow_12 (by decide) ?_
      refine x_aload_n dX6_canNarrow_15 rfl 0 rfl ?_
      obtain ⟨c7, H⟩ := ko_o H
      refine x_getI fr_X6_18 dX6_canNarrow_16 c7 rfl ?_
      refine x_isub dX6_canNarrow_19 ?_
      refine x_icmp_le (tgt := 25) dX6_canNarrow_20 (by decide) (fun c8 => ?_) (fun c8 => ?_)
      · replace H := ite_p H c8
        refine x_aload_n dX6_canNarrow_25 rfl 0 rfl ?_
        refine x_getI fr_X6_18 dX6_canNarrow_26 c7 rfl ?_
        refine x_aload_n dX6_canNarrow_29 rfl 0 rfl ?_
        refine x_getI fr_X6_18 dX6_canNarrow_30 c7 rfl ?_
        refine x_iload_n dX6_canNarrow_33 rfl 1 rfl ?_
        refine x_iadd dX6_canNarrow_34 ?_
        refine x_iload_n dX6_canNarrow_35 rfl 2 rfl ?_
        obtain ⟨v9, h10, hc11, H⟩ := bd_o H
        refine x_callSi (As := [.int (hI h3 x0 2), .int ((hI h3 x0 2) + x1), .int x2]) dX6_canNarrow_36 mi_X6_leastExponent lk_X6_44 sm_X6_leastExponent rfl rfl (Nat.le_of_ble_eq_true rfl) (t_X6_leastExponent (by omega) hc11) ?_
        refine x_istore_n (lv' := [(3, .int v9), (0, .ref x0), (1, .int x1), (2, .int x2)]) dX6_canNarrow_39 rfl (by decide) rfl rfl ?_
        refine x_aload_n dX6_canNarrow_40 rfl 1 rfl ?_
        refine x_iload_n dX6_canNarrow_41 rfl 3 rfl ?_
        obtain ⟨c29, H⟩ := ko_o H
        obtain ⟨v12, h13, hc14, H⟩ := bd_o H
        refine x_callVi (As := [.int x2]) (q := (RX6, TX6, 8)) dX6_canNarrow_42 mi_X6_base lk_X6_51 im_X6_base se_X6_base rfl c29 rfl rfl (Nat.le_of_ble_eq_true rfl) (t_X6_base (by omega) hc14) ?_
        refine x_istore (lv' := [(4, .int v12), (3, .int v9), (0, .ref x0), (1, .int x1), (2, .int x2)]) dX6_canNarrow_45 (by decide) rfl rfl ?_
        refine x_aload_n dX6_canNarrow_47 rfl 2 rfl ?_
        obtain ⟨c15, H⟩ := ko_o H
        refine x_getI fr_X6_18 dX6_canNarrow_48 c15 rfl ?_
        refine x_iload_n dX6_canNarrow_51 rfl 1 rfl ?_
        obtain ⟨v16, h17, hc18, H⟩ := bd_o H
        refine x_callSi (As := [.int (hI h13 x0 2), .int v9]) dX6_canNarrow_52 mi_X6_down lk_X6_41 sm_X6_down rfl rfl (Nat.le_of_ble_eq_true rfl) (t_X6_down (by omega) hc18) ?_
        refine x_iload dX6_canNarrow_55 0 rfl ?_
        refine x_icmp_lt (tgt := 85) dX6_canNarrow_57 (by decide) (fun c19 => ?_) (fun c19 => ?_)
        · replace H := ite_p H c19
          refine Ex.sub [] rfl ?_
          exact t_X6_canNarrow_85 hd H
        · replace H := ite_m H c19
          refine x_aload_n dX6_canNarrow_60 rfl 2 rfl ?_
          obtain ⟨c20, H⟩ := ko_o H
          refine x_getI fr_X6_18 dX6_canNarrow_61 c20 rfl ?_
          refine x_iload_n dX6_canNarrow_64 rfl 3 rfl ?_
          refine x_iadd dX6_canNarrow_65 ?_
          refine x_iload_n dX6_canNarrow_66 rfl 1 rfl ?_
          obtain ⟨v21, h22, hc23, H⟩ := bd_o H
          refine x_callSi (As := [.int ((hI h17 x0 2) + x1), .int v9]) dX6_canNarrow_67 mi_X6_up lk_X6_37 sm_X6_up rfl rfl (Nat.le_of_ble_eq_true rfl) (t_X6_up (by omega) hc23) ?_
          refine x_iload dX6_canNarrow_70 0 rfl ?_
          refine x_aload_n dX6_canNarrow_72 rfl 2 rfl ?_
          refine x_iload_n dX6_canNarrow_73 rfl 4 rfl ?_
          obtain ⟨c28, H⟩ := ko_o H
          obtain ⟨v24, h25, hc26, H⟩ := bd_o H
          refine x_callVi (As := [.int x2]) (q := (RX6, TX6, 8)) dX6_canNarrow_74 mi_X6_extent lk_X6_55 im_X6_extent se_X6_extent rfl c28 rfl rfl (Nat.le_of_ble_eq_true rfl) (t_X6_extent (by omega) hc26) ?_
          refine x_iadd dX6_canNarrow_77 ?_
          refine x_icmp_gt (tgt := 85) dX6_canNarrow_78 (by decide) (fun c27 => ?_) (fun c27 => ?_)
          · replace H := ite_p H c27
            refine Ex.sub [] rfl ?_
            exact t_X6_canNarrow_85 hd H
          · replace H := ite_m H c27
            refine x_iconst (v := 1) dX6_canNarrow_81 (by decide) ?_
            refine x_goto (tgt := 86) dX6_canNarrow_82 (by decide) ?_
            refine Ex.sub [] rfl ?_
            exact t_X6_canNarrow_86 hd H
      · replace H := ite_m H c8
        refine Ex.sub [] rfl ?_
        exact t_X6_canNarrow_23 hd H
def f_X6_tell_107 (h : aH) : Option (Int32 × aH) :=
  some ((-1), h)
set_option maxRecDepth 100000 in
set_option maxHeartbeats 4000000 in
theorem t_X6_tell_107 {Γ : gS} {d : Nat} (hd : 2 ≤ d) {h : aH} {r : Int32} {h' : aH} (H : f_X6_tell_107 h = some (r, h')) : Ex Γ gX6_tell d 107 [] [] h (some (.int r)) h' := by
  unfold f_X6_tell_107 at H
  obtain ⟨d, rfl⟩ : ∃ e, d = e + 1 := ⟨d - 1, by omega⟩
  refine x_iconst (v := (-1)) dX6_tell_107 (by decide) ?_
  obtain ⟨rfl, rfl⟩ := so_1 H
  exact x_iret dX6_tell_108 rfl rfl
def f_X6_tell_64 (s0 : Int32) (h : aH) : Option (Int32 × aH) :=
  some (s0, h)
set_option maxRecDepth 100000 in
set_option maxHeartbeats 4000000 in
theorem t_X6_tell_64 {Γ : gS} {d : Nat} (hd : 2 ≤ d) {s0 : Int32} {h : aH} {r : Int32} {h' : aH} (H : f_X6_tell_64 s0 h = some (r, h')) : Ex Γ gX6_tell d 64 [] [.int s0] h (some (.int r)) h' := by
  unfold f_X6_tell_64 at H
  obtain ⟨d, rfl⟩ : ∃ e, d = e + 1 := ⟨d - 1, by omega⟩
  obtain ⟨rfl, rfl⟩ := so_1 H
  exact x_iret dX6_tell_64 rfl rfl
def f_X6_tell (x0 : Nat) (x1 : Int32) (x2 : Int32) (h : aH) : Option (Int32 × aH) :=
  if x1 < 0 then
    f_X6_tell_107 h
  else
  if 8 < x1 then
    f_X6_tell_107 h
  else
  if x1 = 0 then
    ko h x0 6 <|
    if (hI h x0 1) = 0 then
      f_X6_tell_64 0 h
    else
      f_X6_tell_64 1 h
  else
  if x1 = 1 then
    ko h x0 6 <|
    some (hI h x0 2, h)
  else
  if x1 = 2 then
    ko h x0 6 <|
    bd (f_X6_base x0 x2 h) fun v9 h10 =>
    some (v9, h10)
  else
  if x1 = 3 then
    ko h x0 6 <|
    bd (f_X6_extent x0 x2 h) fun v14 h15 =>
    some (v14, h15)
  else
  if x1 = 4 then
    ko h x0 6 <|
    some (hI h x0 3, h)
  else
  if x1 = 5 then
    ko h x0 6 <|
    some (hI h x0 4, h)
  else
  if x1 = 6 then
    ko h x0 6 <|
    some (hI h x0 5, h)
  else
  if x1 = 7 then
    ko h x0 6 <|
    some (hI h x0 6, h)
  else
  if x1 = 8 then
    ko h x0 6 <|
    some (hI h x0 7, h)
  else
  none
set_option maxRecDepth 100000 in
set_option maxHeartbeats 4000000 in
theorem t_X6_tell {Γ : gS} {d : Nat} (hd : 2 ≤ d) {x0 : Nat} {x1 : Int32} {x2 : Int32} {h : aH} {r : Int32} {h' : aH} (H : f_X6_tell x0 x1 x2 h = some (r, h')) : Mx Γ gX6_tell d [.ref x0, .int x1, .int x2] h (some (.int r)) h' := by
  refine Mx.of (by decide +kernel) (Nat.le_of_ble_eq_true rfl) ?_
  unfold f_X6_tell at H
  show Ex Γ gX6_tell d 0 [(0, .ref x0), (1, .int x1), (2, .int x2)] [] h (some (.int r)) h'
  obtain ⟨d, rfl⟩ : ∃ e, d = e + 1 := ⟨d - 1, by omega⟩
  refine x_iload_n dX6_tell_0 rfl 1 rfl ?_
  by_cases c1 : x1 < 0
  · replace H := ite_p H c1
    refine x_tableOut (tgt := 107) dX6_tell_1 (Or.inl (sw_lo c1 (by decide))) (by decide) ?_
    refine Ex.sub [] rfl ?_
    exact t_X6_tell_107 hd H
  replace H := ite_m H c1
  by_cases c2 : 8 < x1
  · replace H := ite_p H c2
    refine x_tableOut (tgt := 107) dX6_tell_1 (Or.inr (sw_hi c2 (by decide))) (by decide) ?_
    refine Ex.sub [] rfl ?_
    exact t_X6_tell_107 hd H
  replace H := ite_m H c2
  by_cases c3 : x1 = 0
  · replace H := ite_p H c3
    refine x_tableIn (tgt := 52) dX6_tell_1 (by rw [c3]; decide) (by rw [c3]; decide) (by rw [c3]; rfl) (by decide) ?_
    refine x_aload_n dX6_tell_52 rfl 0 rfl ?_
    obtain ⟨c4, H⟩ := ko_o H
    refine x_getI fr_X6_15 dX6_tell_53 c4 rfl ?_
    refine x_if_eq (tgt := 63) dX6_tell_56 (by decide) (fun c5 => ?_) (fun c5 => ?_)
    · replace H := ite_p H c5
      refine x_iconst (v := 0) dX6_tell_63 (by decide) ?_
      refine Ex.sub [] rfl ?_
      exact t_X6_tell_64 hd H
    · replace H := ite_m H c5
      refine x_iconst (v := 1) dX6_tell_59 (by decide) ?_
      refine x_goto (tgt := 64) dX6_tell_60 (by decide) ?_
      refine Ex.sub [] rfl ?_
      exact t_X6_tell_64 hd H
  replace H := ite_m H c3
  by_cases c6 : x1 = 1
  · replace H := ite_p H c6
    refine x_tableIn (tgt := 65) dX6_tell_1 (by rw [c6]; decide) (by rw [c6]; decide) (by rw [c6]; rfl) (by decide) ?_
    refine x_aload_n dX6_tell_65 rfl 0 rfl ?_
    obtain ⟨c7, H⟩ := ko_o H
    refine x_getI fr_X6_18 dX6_tell_66 c7 rfl ?_
    obtain ⟨rfl, rfl⟩ := so_1 H
    exact x_iret dX6_tell_69 rfl rfl
  replace H := ite_m H c6
  by_cases c8 : x1 = 2
  · replace H := ite_p H c8
    refine x_tableIn (tgt := 70) dX6_tell_1 (by rw [c8]; decide) (by rw [c8]; decide) (by rw [c8]; rfl) (by decide) ?_
    refine x_aload_n dX6_tell_70 rfl 0 rfl ?_
    refine x_iload_n dX6_tell_71 rfl 2 rfl ?_
    obtain ⟨c12, H⟩ := ko_o H
    obtain ⟨v9, h10, hc11, H⟩ := bd_o H
    refine x_callVi (As := [.int x2]) (q := (RX6, TX6, 8)) dX6_tell_72 mi_X6_base lk_X6_51 im_X6_base se_X6_base rfl c12 rfl rfl (Nat.le_of_ble_eq_true rfl) (t_X6_base (by omega) hc11) ?_
    obtain ⟨rfl, rfl⟩ := so_1 H
    exact x_iret dX6_tell_75 rfl rfl
  replace H := ite_m H c8
  by_cases c13 : x1 = 3
  · replace H := ite_p H c13
    refine x_tableIn (tgt := 76) dX6_tell_1 (by rw [c13]; decide) (by rw [c13]; decide) (by rw [c13]; rfl) (by decide) ?_
    refine x_aload_n dX6_tell_76 rfl 0 rfl ?_
    refine x_iload_n dX6_tell_77 rfl 2 rfl ?_
    obtain ⟨c17, H⟩ := ko_o H
    obtain ⟨v14, h15, hc16, H⟩ := bd_o H
    refine x_callVi (As := [.int x2]) (q := (RX6, TX6, 8)) dX6_tell_78 mi_X6_extent lk_X6_55 im_X6_extent se_X6_extent rfl c17 rfl rfl (Nat.le_of_ble_eq_true rfl) (t_X6_extent (by omega) hc16) ?_
    obtain ⟨rfl, rfl⟩ := so_1 H
    exact x_iret dX6_tell_81 rfl rfl
  replace H := ite_m H c13
  by_cases c18 : x1 = 4
  · replace H := ite_p H c18
    refine x_tableIn (tgt := 82) dX6_tell_1 (by rw [c18]; decide) (by rw [c18]; decide) (by rw [c18]; rfl) (by decide) ?_
    refine x_aload_n dX6_tell_82 rfl 0 rfl ?_
    obtain ⟨c19, H⟩ := ko_o H
    refine x_getI fr_X6_22 dX6_tell_83 c19 rfl ?_
    obtain ⟨rfl, rfl⟩ := so_1 H
    exact x_iret dX6_tell_86 rfl rfl
  replace H := ite_m H c18
  by_cases c20 : x1 = 5
  · replace H := ite_p H c20
    refine x_tableIn (tgt := 87) dX6_tell_1 (by rw [c20]; decide) (by rw [c20]; decide) (by rw [c20]; rfl) (by decide) ?_
    refine x_aload_n dX6_tell_87 rfl 0 rfl ?_
    obtain ⟨c21, H⟩ := ko_o H
    refine x_getI fr_X6_25 dX6_tell_88 c21 rfl ?_
    obtain ⟨rfl, rfl⟩ := so_1 H
    exact x_iret dX6_tell_91 rfl rfl
  replace H := ite_m H c20
  by_cases c22 : x1 = 6
  · replace H := ite_p H c22
    refine x_tableIn (tgt := 92) dX6_tell_1 (by rw [c22]; decide) (by rw [c22]; decide) (by rw [c22]; rfl) (by decide) ?_
    refine x_aload_n dX6_tell_92 rfl 0 rfl ?_
    obtain ⟨c23, H⟩ := ko_o H
    refine x_getI fr_X6_28 dX6_tell_93 c23 rfl ?_
    obtain ⟨rfl, rfl⟩ := so_1 H
    exact x_iret dX6_tell_96 rfl rfl
  replace H := ite_m H c22
  by_cases c24 : x1 = 7
  · replace H := ite_p H c24
    refine x_tableIn (tgt := 97) dX6_tell_1 (by rw [c24]; decide) (by rw [c24]; decide) (by rw [c24]; rfl) (by decide) ?_
    refine x_aload_n dX6_tell_97 rfl 0 rfl ?_
    obtain ⟨c25, H⟩ := ko_o H
    refine x_getI fr_X6_31 dX6_tell_98 c25 rfl ?_
    obtain ⟨rfl, rfl⟩ := so_1 H
    exact x_iret dX6_tell_101 rfl rfl
  replace H := ite_m H c24
  by_cases c26 : x1 = 8
  · replace H := ite_p H c26
    refine x_tableIn (tgt := 102) dX6_tell_1 (by rw [c26]; decide) (by rw [c26]; decide) (by rw [c26]; rfl) (by decide) ?_
    refine x_aload_n dX6_tell_102 rfl 0 rfl ?_
    obtain ⟨c27, H⟩ := ko_o H
    refine x_getI fr_X6_34 dX6_tell_103 c27 rfl ?_
    obtain ⟨rfl, rfl⟩ := so_1 H
    exact x_iret dX6_tell_106 rfl rfl
  replace H := ite_m H c26
  cases H
