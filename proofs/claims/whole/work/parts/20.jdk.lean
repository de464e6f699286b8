theorem sw_lo {x k : Int32} {a : Int} (h : x < k) (hk : k.toInt = a) : x.toInt < a := by rw [← hk]; exact Int32.lt_iff_toInt_lt.mp h
theorem sw_hi {x k : Int32} {a : Int} (h : k < x) (hk : k.toInt = a) : a < x.toInt := by rw [← hk]; exact Int32.lt_iff_toInt_lt.mp h
def f_J9_floorDiv_7cf53_21 (x2 : Int32) (h : aH) : Option (Int32 × aH) :=
  some (x2, h)
set_option maxRecDepth 100000 in
set_option maxHeartbeats 4000000 in
theorem t_J9_floorDiv_7cf53_21 {Γ : gS} {d : Nat} (hd : 0 ≤ d) {x2 : Int32} {h : aH} {r : Int32} {h' : aH} (H : f_J9_floorDiv_7cf53_21 x2 h = some (r, h')) : Ex Γ gJ9_floorDiv_7cf53 d 21 [(2, .int x2)] [] h (some (.int r)) h' := by
  unfold f_J9_floorDiv_7cf53_21 at H
  refine x_iload_n dJ9_floorDiv_7cf53_21 rfl 0 rfl ?_
  obtain ⟨rfl, rfl⟩ := so_1 H
  exact x_iret dJ9_floorDiv_7cf53_22 rfl rfl
def f_J9_floorDiv_7cf53 (x0 : Int32) (x1 : Int32) (h : aH) : Option (Int32 × aH) :=
  chk (¬ x1 = 0) <|
  nm (x0 / x1) fun (v1 : Int32) =>
  if 0 ≤ (x0 ^^^ x1) then
    f_J9_floorDiv_7cf53_21 v1 h
  else
    if (v1 * x1) = x0 then
      f_J9_floorDiv_7cf53_21 v1 h
    else
      some (v1 - 1, h)
set_option maxRecDepth 100000 in
set_option maxHeartbeats 4000000 in
theorem t_J9_floorDiv_7cf53 {Γ : gS} {d : Nat} (hd : 0 ≤ d) {x0 : Int32} {x1 : Int32} {h : aH} {r : Int32} {h' : aH} (H : f_J9_floorDiv_7cf53 x0 x1 h = some (r, h')) : Mx Γ gJ9_floorDiv_7cf53 d [.int x0, .int x1] h (some (.int r)) h' := by
  refine Mx.of (by decide +kernel) (Nat.le_of_ble_eq_true rfl) ?_
  unfold f_J9_floorDiv_7cf53 at H
  show Ex Γ gJ9_floorDiv_7cf53 d 0 [(0, .int x0), (1, .int x1)] [] h (some (.int r)) h'
  refine x_iload_n dJ9_floorDiv_7cf53_0 rfl 0 rfl ?_
  refine x_iload_n dJ9_floorDiv_7cf53_1 rfl 1 rfl ?_
  obtain ⟨c4, H⟩ := chk_o H
  refine x_idiv dJ9_floorDiv_7cf53_2 c4 ?_
  obtain ⟨v1, ev1, H⟩ := nm_o H
  refine x_istore_n (lv' := [(2, .int v1), (0, .int x0), (1, .int x1)]) dJ9_floorDiv_7cf53_3 rfl (by decide) ev1 rfl ?_
  refine x_iload_n dJ9_floorDiv_7cf53_4 rfl 1 rfl ?_
  refine x_iload_n dJ9_floorDiv_7cf53_5 rfl 2 rfl ?_
  refine x_ixor dJ9_floorDiv_7cf53_6 ?_
  refine x_if_ge (tgt := 21) dJ9_floorDiv_7cf53_7 (by decide) (fun c2 => ?_) (fun c2 => ?_)
  · replace H := ite_p H c2
    refine Ex.sub [0] rfl ?_
    exact t_J9_floorDiv_7cf53_21 hd H
  · replace H := ite_m H c2
    refine x_iload_n dJ9_floorDiv_7cf53_10 rfl 0 rfl ?_
    refine x_iload_n dJ9_floorDiv_7cf53_11 rfl 2 rfl ?_
    refine x_imul dJ9_floorDiv_7cf53_12 ?_
    refine x_iload_n dJ9_floorDiv_7cf53_13 rfl 1 rfl ?_
    refine x_icmp_eq (tgt := 21) dJ9_floorDiv_7cf53_14 (by decide) (fun c3 => ?_) (fun c3 => ?_)
    · replace H := ite_p H c3
      refine Ex.sub [0] rfl ?_
      exact t_J9_floorDiv_7cf53_21 hd H
    · replace H := ite_m H c3
      refine x_iload_n dJ9_floorDiv_7cf53_17 rfl 0 rfl ?_
      refine x_iconst (v := 1) dJ9_floorDiv_7cf53_18 (by decide) ?_
      refine x_isub dJ9_floorDiv_7cf53_19 ?_
      obtain ⟨rfl, rfl⟩ := so_1 H
      exact x_iret dJ9_floorDiv_7cf53_20 rfl rfl
def f_J9_max_7cf53_10 (s0 : Int32) (h : aH) : Option (Int32 × aH) :=
  some (s0, h)
set_option maxRecDepth 100000 in
set_option maxHeartbeats 4000000 in
theorem t_J9_max_7cf53_10 {Γ : gS} {d : Nat} (hd : 0 ≤ d) {s0 : Int32} {h : aH} {r : Int32} {h' : aH} (H : f_J9_max_7cf53_10 s0 h = some (r, h')) : Ex Γ gJ9_max_7cf53 d 10 [] [.int s0] h (some (.int r)) h' := by
  unfold f_J9_max_7cf53_10 at H
  obtain ⟨rfl, rfl⟩ := so_1 H
  exact x_iret dJ9_max_7cf53_10 rfl rfl
def f_J9_max_7cf53 (x0 : Int32) (x1 : Int32) (h : aH) : Option (Int32 × aH) :=
  if x0 < x1 then
    f_J9_max_7cf53_10 x1 h
  else
    f_J9_max_7cf53_10 x0 h
set_option maxRecDepth 100000 in
set_option maxHeartbeats 4000000 in
theorem t_J9_max_7cf53 {Γ : gS} {d : Nat} (hd : 0 ≤ d) {x0 : Int32} {x1 : Int32} {h : aH} {r : Int32} {h' : aH} (H : f_J9_max_7cf53 x0 x1 h = some (r, h')) : Mx Γ gJ9_max_7cf53 d [.int x0, .int x1] h (some (.int r)) h' := by
  refine Mx.of (by decide +kernel) (Nat.le_of_ble_eq_true rfl) ?_
  unfold f_J9_max_7cf53 at H
  show Ex Γ gJ9_max_7cf53 d 0 [(0, .int x0), (1, .int x1)] [] h (some (.int r)) h'
  refine x_iload_n dJ9_max_7cf53_0 rfl 0 rfl ?_
  refine x_iload_n dJ9_max_7cf53_1 rfl 1 rfl ?_
  refine x_icmp_lt (tgt := 9) dJ9_max_7cf53_2 (by decide) (fun c1 => ?_) (fun c1 => ?_)
  · replace H := ite_p H c1
    refine x_iload_n dJ9_max_7cf53_9 rfl 1 rfl ?_
    refine Ex.sub [] rfl ?_
    exact t_J9_max_7cf53_10 hd H
  · replace H := ite_m H c1
    refine x_iload_n dJ9_max_7cf53_5 rfl 0 rfl ?_
    refine x_goto (tgt := 10) dJ9_max_7cf53_6 (by decide) ?_
    refine Ex.sub [] rfl ?_
    exact t_J9_max_7cf53_10 hd H
def f_J9_max_f86c9_11 (s0 : Int64) (h : aH) : Option (Int64 × aH) :=
  some (s0, h)
set_option maxRecDepth 100000 in
set_option maxHeartbeats 4000000 in
theorem t_J9_max_f86c9_11 {Γ : gS} {d : Nat} (hd : 0 ≤ d) {s0 : Int64} {h : aH} {r : Int64} {h' : aH} (H : f_J9_max_f86c9_11 s0 h = some (r, h')) : Ex Γ gJ9_max_f86c9 d 11 [] [.long s0] h (some (.long r)) h' := by
  unfold f_J9_max_f86c9_11 at H
  obtain ⟨rfl, rfl⟩ := so_1 H
  exact x_lret dJ9_max_f86c9_11 rfl
def f_J9_max_f86c9 (x0 : Int64) (x2 : Int64) (h : aH) : Option (Int64 × aH) :=
  if (lg_cmp x0 x2) < 0 then
    f_J9_max_f86c9_11 x2 h
  else
    f_J9_max_f86c9_11 x0 h
set_option maxRecDepth 100000 in
set_option maxHeartbeats 4000000 in
theorem t_J9_max_f86c9 {Γ : gS} {d : Nat} (hd : 0 ≤ d) {x0 : Int64} {x2 : Int64} {h : aH} {r : Int64} {h' : aH} (H : f_J9_max_f86c9 x0 x2 h = some (r, h')) : Mx Γ gJ9_max_f86c9 d [.long x0, .long x2] h (some (.long r)) h' := by
  refine Mx.of (by decide +kernel) (Nat.le_of_ble_eq_true rfl) ?_
  unfold f_J9_max_f86c9 at H
  show Ex Γ gJ9_max_f86c9 d 0 [(0, .long x0), (2, .long x2)] [] h (some (.long r)) h'
  refine x_lload_n dJ9_max_f86c9_0 rfl 0 rfl ?_
  refine x_lload_n dJ9_max_f86c9_1 rfl 1 rfl ?_
  refine x_lcmp dJ9_max_f86c9_2 ?_
  refine x_if_lt (tgt := 10) dJ9_max_f86c9_3 (by decide) (fun c1 => ?_) (fun c1 => ?_)
  · replace H := ite_p H c1
    refine x_lload_n dJ9_max_f86c9_10 rfl 1 rfl ?_
    refine Ex.sub [] rfl ?_
    exact t_J9_max_f86c9_11 hd H
  · replace H := ite_m H c1
    refine x_lload_n dJ9_max_f86c9_6 rfl 0 rfl ?_
    refine x_goto (tgt := 11) dJ9_max_f86c9_7 (by decide) ?_
    refine Ex.sub [] rfl ?_
    exact t_J9_max_f86c9_11 hd H
def f_J9_min_7cf53_10 (s0 : Int32) (h : aH) : Option (Int32 × aH) :=
  some (s0, h)
set_option maxRecDepth 100000 in
set_option maxHeartbeats 4000000 in
theorem t_J9_min_7cf53_10 {Γ : gS} {d : Nat} (hd : 0 ≤ d) {s0 : Int32} {h : aH} {r : Int32} {h' : aH} (H : f_J9_min_7cf53_10 s0 h = some (r, h')) : Ex Γ gJ9_min_7cf53 d 10 [] [.int s0] h (some (.int r)) h' := by
  unfold f_J9_min_7cf53_10 at H
  obtain ⟨rfl, rfl⟩ := so_1 H
  exact x_iret dJ9_min_7cf53_10 rfl rfl
def f_J9_min_7cf53 (x0 : Int32) (x1 : Int32) (h : aH) : Option (Int32 × aH) :=
  if x1 < x0 then
    f_J9_min_7cf53_10 x1 h
  else
    f_J9_min_7cf53_10 x0 h
set_option maxRecDepth 100000 in
set_option maxHeartbeats 4000000 in
theorem t_J9_min_7cf53 {Γ : gS} {d : Nat} (hd : 0 ≤ d) {x0 : Int32} {x1 : Int32} {h : aH} {r : Int32} {h' : aH} (H : f_J9_min_7cf53 x0 x1 h = some (r, h')) : Mx Γ gJ9_min_7cf53 d [.int x0, .int x1] h (some (.int r)) h' := by
  refine Mx.of (by decide +kernel) (Nat.le_of_ble_eq_true rfl) ?_
  unfold f_J9_min_7cf53 at H
  show Ex Γ gJ9_min_7cf53 d 0 [(0, .int x0), (1, .int x1)] [] h (some (.int r)) h'
  refine x_iload_n dJ9_min_7cf53_0 rfl 0 rfl ?_
  refine x_iload_n dJ9_min_7cf53_1 rfl 1 rfl ?_
  refine x_icmp_gt (tgt := 9) dJ9_min_7cf53_2 (by decide) (fun c1 => ?_) (fun c1 => ?_)
  · replace H := ite_p H c1
    refine x_iload_n dJ9_min_7cf53_9 rfl 1 rfl ?_
    refine Ex.sub [] rfl ?_
    exact t_J9_min_7cf53_10 hd H
  · replace H := ite_m H c1
    refine x_iload_n dJ9_min_7cf53_5 rfl 0 rfl ?_
    refine x_goto (tgt := 10) dJ9_min_7cf53_6 (by decide) ?_
    refine Ex.sub [] rfl ?_
    exact t_J9_min_7cf53_10 hd H
def f_J9_min_f86c9_11 (s0 : Int64) (h : aH) : Option (Int64 × aH) :=
  some (s0, h)
set_option maxRecDepth 100000 in
set_option maxHeartbeats 4000000 in
theorem t_J9_min_f86c9_11 {Γ : gS} {d : Nat} (hd : 0 ≤ d) {s0 : Int64} {h : aH} {r : Int64} {h' : aH} (H : f_J9_min_f86c9_11 s0 h = some (r, h')) : Ex Γ gJ9_min_f86c9 d 11 [] [.long s0] h (some (.long r)) h' := by
  unfold f_J9_min_f86c9_11 at H
  obtain ⟨rfl, rfl⟩ := so_1 H
  exact x_lret dJ9_min_f86c9_11 rfl
def f_J9_min_f86c9 (x0 : Int64) (x2 : Int64) (h : aH) : Option (Int64 × aH) :=
  if 0 < (lg_cmp x0 x2) then
    f_J9_min_f86c9_11 x2 h
  else
    f_J9_min_f86c9_11 x0 h
set_option maxRecDepth 100000 in
set_option maxHeartbeats 4000000 in
theorem t_J9_min_f86c9 {Γ : gS} {d : Nat} (hd : 0 ≤ d) {x0 : Int64} {x2 : Int64} {h : aH} {r : Int64} {h' : aH} (H : f_J9_min_f86c9 x0 x2 h = some (r, h')) : Mx Γ gJ9_min_f86c9 d [.long x0, .long x2] h (some (.long r)) h' := by
  refine Mx.of (by decide +kernel) (Nat.le_of_ble_eq_true rfl) ?_
  unfold f_J9_min_f86c9 at H
  show Ex Γ gJ9_min_f86c9 d 0 [(0, .long x0), (2, .long x2)] [] h (some (.long r)) h'
  refine x_lload_n dJ9_min_f86c9_0 rfl 0 rfl ?_
  refine x_lload_n dJ9_min_f86c9_1 rfl 1 rfl ?_
  refine x_lcmp dJ9_min_f86c9_2 ?_
  refine x_if_gt (tgt := 10) dJ9_min_f86c9_3 (by decide) (fun c1 => ?_) (fun c1 => ?_)
  · replace H := ite_p H c1
    refine x_lload_n dJ9_min_f86c9_10 rfl 1 rfl ?_
    refine Ex.sub [] rfl ?_
    exact t_J9_min_f86c9_11 hd H
  · replace H := ite_m H c1
    refine x_lload_n dJ9_min_f86c9_6 rfl 0 rfl ?_
    refine x_goto (tgt := 11) dJ9_min_f86c9_7 (by decide) ?_
    refine Ex.sub [] rfl ?_
    exact t_J9_min_f86c9_11 hd H
def b_J7_fill_53178_5 (k5 : Nat → Int32 → Int32 → Int32 → aH → Option (Unit × aH)) (x0 : Nat) (x1 : Int32) (x2 : Int32) (x3 : Int32) (h : aH) : Option (Unit × aH) :=
  if x3 ≤ x2 then
    some ((), h)
  else
    ka h x0 .int fun n3 =>
    chk (inb x2 n3 = true) <|
    nm (x2 + 1) fun (v5 : Int32) =>
    k5 x0 x1 v5 x3 (sI h x0 x2.toNatClampNeg x1)
set_option maxRecDepth 100000 in
set_option maxHeartbeats 4000000 in
theorem tb_J7_fill_53178_5 {Γ : gS} {d : Nat} (hd : 0 ≤ d) {k5 : Nat → Int32 → Int32 → Int32 → aH → Option (Unit × aH)} (hk5 : ∀ {x0 : Nat} {x1 : Int32} {x2 : Int32} {x3 : Int32} {h : aH} {r : Unit} {h' : aH}, k5 x0 x1 x2 x3 h = some (r, h') → Ex Γ gJ7_fill_53178 d 5 [(0, .ref x0), (1, .int x1), (2, .int x2), (3, .int x3)] [] h none h') {x0 : Nat} {x1 : Int32} {x2 : Int32} {x3 : Int32} {h : aH} {r : Unit} {h' : aH} (H : b_J7_fill_53178_5 k5 x0 x1 x2 x3 h = some (r, h')) : Ex Γ gJ7_fill_53178 d 5 [(0, .ref x0), (1, .int x1), (2, .int x2), (3, .int x3)] [] h none h' := by
  unfold b_J7_fill_53178_5 at H
  refine x_iload_n dJ7_fill_53178_5 rfl 2 rfl ?_
  refine x_iload_n dJ7_fill_53178_6 rfl 3 rfl ?_
  refine x_icmp_ge (tgt := 20) dJ7_fill_53178_7 (by decide) (fun c1 => ?_) (fun c1 => ?_)
  · replace H := ite_p H c1
    obtain ⟨-, rfl⟩ := so_1 H
    exact x_vret dJ7_fill_53178_20 rfl
  · replace H := ite_m H c1
    refine x_aload_n dJ7_fill_53178_10 rfl 0 rfl ?_
    refine x_iload_n dJ7_fill_53178_11 rfl 2 rfl ?_
    refine x_iload_n dJ7_fill_53178_12 rfl 1 rfl ?_
    obtain ⟨n3, c2, H⟩ := ka_o H
    obtain ⟨c4, H⟩ := chk_o H
    refine x_iast dJ7_fill_53178_13 c2 (inb_in.mp c4) ?_
    obtain ⟨v5, ev5, H⟩ := nm_o H
    refine x_iinc (v := v5) (lv' := [(2, .int v5), (0, .ref x0), (1, .int x1), (3, .int x3)]) dJ7_fill_53178_14 2 rfl (by decide) ev5 rfl ?_
    refine x_goto (tgt := 5) dJ7_fill_53178_17 (by decide) ?_
    refine Ex.sub [1, 2, 0, 3] rfl ?_
    exact hk5 H
def f_J7_fill_53178_5 : Nat → Nat → Int32 → Int32 → Int32 → aH → Option (Unit × aH)
  | 0 => fun _ _ _ _ _ => none
  | n + 1 => b_J7_fill_53178_5 (f_J7_fill_53178_5 n)
set_option maxRecDepth 100000 in
set_option maxHeartbeats 4000000 in
theorem t_J7_fill_53178_5 {Γ : gS} {d : Nat} (hd : 0 ≤ d) (n : Nat) : ∀ {x0 : Nat} {x1 : Int32} {x2 : Int32} {x3 : Int32} {h : aH} {r : Unit} {h' : aH}, f_J7_fill_53178_5 n x0 x1 x2 x3 h = some (r, h') → Ex Γ gJ7_fill_53178 d 5 [(0, .ref x0), (1, .int x1), (2, .int x2), (3, .int x3)] [] h none h' := by
  induction n with
  | zero => intro x0 x1 x2 x3 h r h' H; cases H
  | succ n ih => intro x0 x1 x2 x3 h r h' H; exact tb_J7_fill_53178_5 hd ih H
def f_J7_fill_53178 (x0 : Nat) (x1 : Int32) (h : aH) : Option (Unit × aH) :=
  ka h x0 .int fun n7 =>
  nm (Int32.ofNat n7) fun (v8 : Int32) =>
  f_J7_fill_53178_5 FU x0 x1 0 v8 h
set_option maxRecDepth 100000 in
set_option maxHeartbeats 4000000 in
theorem t_J7_fill_53178 {Γ : gS} {d : Nat} (hd : 0 ≤ d) {x0 : Nat} {x1 : Int32} {h : aH} {r : Unit} {h' : aH} (H : f_J7_fill_53178 x0 x1 h = some (r, h')) : Mx Γ gJ7_fill_53178 d [.ref x0, .int x1] h none h' := by
  refine Mx.of (by decide +kernel) (Nat.le_of_ble_eq_true rfl) ?_
  unfold f_J7_fill_53178 at H
  show Ex Γ gJ7_fill_53178 d 0 [(0, .ref x0), (1, .int x1)] [] h none h'
  refine x_iconst (v := 0) dJ7_fill_53178_0 (by decide) ?_
  refine x_istore_n (lv' := [(2, .int 0), (0, .ref x0), (1, .int x1)]) dJ7_fill_53178_1 rfl (by decide) rfl rfl ?_
  refine x_aload_n dJ7_fill_53178_2 rfl 1 rfl ?_
  obtain ⟨n7, c6, H⟩ := ka_o H
  refine x_alen dJ7_fill_53178_3 c6 (by decide) ?_
  obtain ⟨v8, ev8, H⟩ := nm_o H
  refine x_istore_n (lv' := [(3, .int v8), (2, .int 0), (0, .ref x0), (1, .int x1)]) dJ7_fill_53178_4 rfl (by decide) ev8 rfl ?_
  refine Ex.sub [2, 3, 1, 0] rfl ?_
  exact t_J7_fill_53178_5 hd FU H
def b_J7_fill_031fb_5 (k5 : Nat → Int32 → Int32 → Int32 → aH → Option (Unit × aH)) (x0 : Nat) (x1 : Int32) (x2 : Int32) (x3 : Int32) (h : aH) : Option (Unit × aH) :=
  if x3 ≤ x2 then
    some ((), h)
  else
    ka h x0 .byte fun n3 =>
    chk (inb x2 n3 = true) <|
    nm (x2 + 1) fun (v5 : Int32) =>
    k5 x0 x1 v5 x3 (sI h x0 x2.toNatClampNeg x1.toInt8.toInt32)
set_option maxRecDepth 100000 in
set_option maxHeartbeats 4000000 in
theorem tb_J7_fill_031fb_5 {Γ : gS} {d : Nat} (hd : 0 ≤ d) {k5 : Nat → Int32 → Int32 → Int32 → aH → Option (Unit × aH)} (hk5 : ∀ {x0 : Nat} {x1 : Int32} {x2 : Int32} {x3 : Int32} {h : aH} {r : Unit} {h' : aH}, k5 x0 x1 x2 x3 h = some (r, h') → Ex Γ gJ7_fill_031fb d 5 [(0, .ref x0), (1, .int x1), (2, .int x2), (3, .int x3)] [] h none h') {x0 : Nat} {x1 : Int32} {x2 : Int32} {x3 : Int32} {h : aH} {r : Unit} {h' : aH} (H : b_J7_fill_031fb_5 k5 x0 x1 x2 x3 h = some (r, h')) : Ex Γ gJ7_fill_031fb d 5 [(0, .ref x0), (1, .int x1), (2, .int x2), (3, .int x3)] [] h none h' := by
  unfold b_J7_fill_031fb_5 at H
  refine x_iload_n dJ7_fill_031fb_5 rfl 2 rfl ?_
  refine x_iload_n dJ7_fill_031fb_6 rfl 3 rfl ?_
  refine x_icmp_ge (tgt := 20) dJ7_fill_031fb_7 (by decide) (fun c1 => ?_) (fun c1 => ?_)
  · replace H := ite_p H c1
    obtain ⟨-, rfl⟩ := so_1 H
    exact x_vret dJ7_fill_031fb_20 rfl
  · replace H := ite_m H c1
    refine x_aload_n dJ7_fill_031fb_10 rfl 0 rfl ?_
    refine x_iload_n dJ7_fill_031fb_11 rfl 2 rfl ?_
    refine x_iload_n dJ7_fill_031fb_12 rfl 1 rfl ?_
    obtain ⟨n3, c2, H⟩ := ka_o H
    obtain ⟨c4, H⟩ := chk_o H
    refine x_bast dJ7_fill_031fb_13 c2 (inb_in.mp c4) ?_
    obtain ⟨v5, ev5, H⟩ := nm_o H
    refine x_iinc (v := v5) (lv' := [(2, .int v5), (0, .ref x0), (1, .int x1), (3, .int x3)]) dJ7_fill_031fb_14 2 rfl (by decide) ev5 rfl ?_
    refine x_goto (tgt := 5) dJ7_fill_031fb_17 (by decide) ?_
    refine Ex.sub [1, 2, 0, 3] rfl ?_
    exact hk5 H
def f_J7_fill_031fb_5 : Nat → Nat → Int32 → Int32 → Int32 → aH → Option (Unit × aH)
  | 0 => fun _ _ _ _ _ => none
  | n + 1 => b_J7_fill_031fb_5 (f_J7_fill_031fb_5 n)
set_option maxRecDepth 100000 in
set_option maxHeartbeats 4000000 in
theorem t_J7_fill_031fb_5 {Γ : gS} {d : Nat} (hd : 0 ≤ d) (n : Nat) : ∀ {x0 : Nat} {x1 : Int32} {x2 : Int32} {x3 : Int32} {h : aH} {r : Unit} {h' : aH}, f_J7_fill_031fb_5 n x0 x1 x2 x3 h = some (r, h') → Ex Γ gJ7_fill_031fb d 5 [(0, .ref x0), (1, .int x1), (2, .int x2), (3, .int x3)] [] h none h' := by
  induction n with
  | zero => intro x0 x1 x2 x3 h r h' H; cases H
  | succ n ih => intro x0 x1 x2 x3 h r h' H; exact tb_J7_fill_031fb_5 hd ih H
def f_J7_fill_031fb (x0 : Nat) (x1 : Int32) (h : aH) : Option (Unit × aH) :=
  ka h x0 .byte fun n7 =>
  nm (Int32.ofNat n7) fun (v8 : Int32) =>
  f_J7_fill_031fb_5 FU x0 x1 0 v8 h
set_option maxRecDepth 100000 in
set_option maxHeartbeats 4000000 in
theorem t_J7_fill_031fb {Γ : gS} {d : Nat} (hd : 0 ≤ d) {x0 : Nat} {x1 : Int32} {h : aH} {r : Unit} {h' : aH} (H : f_J7_fill_031fb x0 x1 h = some (r, h')) : Mx Γ gJ7_fill_031fb d [.ref x0, .int x1] h none h' := by
  refine Mx.of (by decide +kernel) (Nat.le_of_ble_eq_true rfl) ?_
  unfold f_J7_fill_031fb at H
  show Ex Γ gJ7_fill_031fb d 0 [(0, .ref x0), (1, .int x1)] [] h none h'
  refine x_iconst (v := 0) dJ7_fill_031fb_0 (by decide) ?_
  refine x_istore_n (lv' := [(2, .int 0), (0, .ref x0), (1, .int x1)]) dJ7_fill_031fb_1 rfl (by decide) rfl rfl ?_
  refine x_aload_n dJ7_fill_031fb_2 rfl 1 rfl ?_
  obtain ⟨n7, c6, H⟩ := ka_o H
  refine x_alen dJ7_fill_031fb_3 c6 (by decide) ?_
  obtain ⟨v8, ev8, H⟩ := nm_o H
  refine x_istore_n (lv' := [(3, .int v8), (2, .int 0), (0, .ref x0), (1, .int x1)]) dJ7_fill_031fb_4 rfl (by decide) ev8 rfl ?_
  refine Ex.sub [2, 3, 1, 0] rfl ?_
  exact t_J7_fill_031fb_5 hd FU H
