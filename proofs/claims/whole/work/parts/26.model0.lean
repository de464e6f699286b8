def f_X12_isIn_18 (s0 : Int32) (h : aH) : Option (Int32 × aH) :=
  chk (narrow .boolean (.int s0) = .int s0) <|
  some (s0, h)
set_option maxRecDepth 100000 in
set_option maxHeartbeats 4000000 in
theorem t_X12_isIn_18 {Γ : gS} {d : Nat} (hd : 0 ≤ d) {s0 : Int32} {h : aH} {r : Int32} {h' : aH} (H : f_X12_isIn_18 s0 h = some (r, h')) : Ex Γ gX12_isIn d 18 [] [.int s0] h (some (.int r)) h' := by
  unfold f_X12_isIn_18 at H
  obtain ⟨c1, H⟩ := chk_o H
  obtain ⟨rfl, rfl⟩ := so_1 H
  exact x_iret dX12_isIn_18 rfl c1
def f_X12_isIn_17 (h : aH) : Option (Int32 × aH) :=
  f_X12_isIn_18 0 h
set_option maxRecDepth 100000 in
set_option maxHeartbeats 4000000 in
theorem t_X12_isIn_17 {Γ : gS} {d : Nat} (hd : 0 ≤ d) {h : aH} {r : Int32} {h' : aH} (H : f_X12_isIn_17 h = some (r, h')) : Ex Γ gX12_isIn d 17 [] [] h (some (.int r)) h' := by
  unfold f_X12_isIn_17 at H
  refine x_iconst (v := 0) dX12_isIn_17 (by decide) ?_
  exact t_X12_isIn_18 hd H
def f_X12_isIn (x0 : Int64) (x2 : Int64) (x4 : Int64) (h : aH) : Option (Int32 × aH) :=
  if (lg_cmp x0 x2) < 0 then
    f_X12_isIn_17 h
  else
    if 0 < (lg_cmp x0 x4) then
      f_X12_isIn_17 h
    else
      f_X12_isIn_18 1 h
set_option maxRecDepth 100000 in
set_option maxHeartbeats 4000000 in
theorem t_X12_isIn {Γ : gS} {d : Nat} (hd : 0 ≤ d) {x0 : Int64} {x2 : Int64} {x4 : Int64} {h : aH} {r : Int32} {h' : aH} (H : f_X12_isIn x0 x2 x4 h = some (r, h')) : Mx Γ gX12_isIn d [.long x0, .long x2, .long x4] h (some (.int r)) h' := by
  refine Mx.of (by decide +kernel) (Nat.le_of_ble_eq_true rfl) ?_
  unfold f_X12_isIn at H
  show Ex Γ gX12_isIn d 0 [(0, .long x0), (2, .long x2), (4, .long x4)] [] h (some (.int r)) h'
  refine x_lload_n dX12_isIn_0 rfl 0 rfl ?_
  refine x_lload_n dX12_isIn_1 rfl 1 rfl ?_
  refine x_lcmp dX12_isIn_2 ?_
  refine x_if_lt (tgt := 17) dX12_isIn_3 (by decide) (fun c2 => ?_) (fun c2 => ?_)
  · replace H := ite_p H c2
    refine Ex.sub [] rfl ?_
    exact t_X12_isIn_17 hd H
  · replace H := ite_m H c2
    refine x_lload_n dX12_isIn_6 rfl 0 rfl ?_
    refine x_lload dX12_isIn_7 2 rfl ?_
    refine x_lcmp dX12_isIn_9 ?_
    refine x_if_gt (tgt := 17) dX12_isIn_10 (by decide) (fun c3 => ?_) (fun c3 => ?_)
    · replace H := ite_p H c3
      refine Ex.sub [] rfl ?_
      exact t_X12_isIn_17 hd H
    · replace H := ite_m H c3
      refine x_iconst (v := 1) dX12_isIn_13 (by decide) ?_
      refine x_goto (tgt := 18) dX12_isIn_14 (by decide) ?_
      refine Ex.sub [] rfl ?_
      exact t_X12_isIn_18 hd H
def f_X12_clamp_23 (s0 : Int32) (h : aH) : Option (Int32 × aH) :=
  some (s0, h)
set_option maxRecDepth 100000 in
set_option maxHeartbeats 4000000 in
theorem t_X12_clamp_23 {Γ : gS} {d : Nat} (hd : 0 ≤ d) {s0 : Int32} {h : aH} {r : Int32} {h' : aH} (H : f_X12_clamp_23 s0 h = some (r, h')) : Ex Γ gX12_clamp d 23 [] [.int s0] h (some (.int r)) h' := by
  unfold f_X12_clamp_23 at H
  obtain ⟨rfl, rfl⟩ := so_1 H
  exact x_iret dX12_clamp_23 rfl rfl
def f_X12_clamp (x0 : Int64) (x2 : Int32) (h : aH) : Option (Int32 × aH) :=
  if 0 ≤ (lg_cmp x0 0) then
    if (lg_cmp x0 x2.toInt64) ≤ 0 then
      f_X12_clamp_23 x0.toInt32 h
    else
      f_X12_clamp_23 x2 h
  else
    f_X12_clamp_23 0 h
set_option maxRecDepth 100000 in
set_option maxHeartbeats 4000000 in
theorem t_X12_clamp {Γ : gS} {d : Nat} (hd : 0 ≤ d) {x0 : Int64} {x2 : Int32} {h : aH} {r : Int32} {h' : aH} (H : f_X12_clamp x0 x2 h = some (r, h')) : Mx Γ gX12_clamp d [.long x0, .int x2] h (some (.int r)) h' := by
  refine Mx.of (by decide +kernel) (Nat.le_of_ble_eq_true rfl) ?_
  unfold f_X12_clamp at H
  show Ex Γ gX12_clamp d 0 [(0, .long x0), (2, .int x2)] [] h (some (.int r)) h'
  refine x_lload_n dX12_clamp_0 rfl 0 rfl ?_
  refine x_lconst (v := 0) dX12_clamp_1 (by decide) ?_
  refine x_lcmp dX12_clamp_2 ?_
  refine x_if_ge (tgt := 10) dX12_clamp_3 (by decide) (fun c1 => ?_) (fun c1 => ?_)
  · replace H := ite_p H c1
    refine x_lload_n dX12_clamp_10 rfl 0 rfl ?_
    refine x_iload_n dX12_clamp_11 rfl 1 rfl ?_
    refine x_i2l dX12_clamp_12 ?_
    refine x_lcmp dX12_clamp_13 ?_
    refine x_if_le (tgt := 21) dX12_clamp_14 (by decide) (fun c2 => ?_) (fun c2 => ?_)
    · replace H := ite_p H c2
      refine x_lload_n dX12_clamp_21 rfl 0 rfl ?_
      refine x_l2i dX12_clamp_22 ?_
      refine Ex.sub [] rfl ?_
      exact t_X12_clamp_23 hd H
    · replace H := ite_m H c2
      refine x_iload_n dX12_clamp_17 rfl 1 rfl ?_
      refine x_goto (tgt := 23) dX12_clamp_18 (by decide) ?_
      refine Ex.sub [] rfl ?_
      exact t_X12_clamp_23 hd H
  · replace H := ite_m H c1
    refine x_iconst (v := 0) dX12_clamp_6 (by decide) ?_
    refine x_goto (tgt := 23) dX12_clamp_7 (by decide) ?_
    refine Ex.sub [] rfl ?_
    exact t_X12_clamp_23 hd H
def f_X12_feed_81 (k28 : Nat → Int32 → Int32 → Int32 → Int32 → Int32 → Int32 → aH → Option (Int32 × aH)) (x0 : Nat) (x1 : Int32) (x2 : Int32) (x3 : Int32) (x4 : Int32) (x5 : Int32) (x6 : Int32) (s0 : Int32) (h : aH) : Option (Int32 × aH) :=
  ko h x0 11 <|
  kr (hR h x0 0) fun a2 =>
  ka h a2 .int fun n5 =>
  chk (inb (hI h x0 1) n5 = true) <|
  nm (hI (sI h a2 (hI h x0 1 : Int32).toNatClampNeg ((s0 >>> ((8 * (3 - (x6 - x6 / 4 * 4))) &&& 31)) &&& 255)) x0 1) fun (v7 : Int32) =>
  nm (x6 + 1) fun (v8 : Int32) =>
  k28 x0 x1 x2 x3 x4 x5 v8 (sI (sI h a2 (hI h x0 1 : Int32).toNatClampNeg ((s0 >>> ((8 * (3 - (x6 - x6 / 4 * 4))) &&& 31)) &&& 255)) x0 1 (v7 + 1))
set_option maxRecDepth 100000 in
set_option maxHeartbeats 4000000 in
theorem t_X12_feed_81 {Γ : gS} {d : Nat} (hd : 0 ≤ d) {k28 : Nat → Int32 → Int32 → Int32 → Int32 → Int32 → Int32 → aH → Option (Int32 × aH)} (hk28 : ∀ {x0 : Nat} {x1 : Int32} {x2 : Int32} {x3 : Int32} {x4 : Int32} {x5 : Int32} {x6 : Int32} {h : aH} {r : Int32} {h' : aH}, k28 x0 x1 x2 x3 x4 x5 x6 h = some (r, h') → Ex Γ gX12_feed d 28 [(0, .ref x0), (1, .int x1), (2, .int x2), (3, .int x3), (4, .int x4), (5, .int x5), (6, .int x6)] [] h (some (.int r)) h') {x0 : Nat} {x1 : Int32} {x2 : Int32} {x3 : Int32} {x4 : Int32} {x5 : Int32} {x6 : Int32} {s0 : Int32} {h : aH} {r : Int32} {h' : aH} (H : f_X12_feed_81 k28 x0 x1 x2 x3 x4 x5 x6 s0 h = some (r, h')) : Ex Γ gX12_feed d 81 [(0, .ref x0), (1, .int x1), (2, .int x2), (3, .int x3), (4, .int x4), (5, .int x5), (6, .int x6)] [.int s0] h (some (.int r)) h' := by
  unfold f_X12_feed_81 at H
  refine x_istore (lv' := [(7, .int s0), (0, .ref x0), (1, .int x1), (2, .int x2), (3, .int x3), (4, .int x4), (5, .int x5), (6, .int x6)]) dX12_feed_81 (by decide) rfl rfl ?_
  refine x_aload_n dX12_feed_83 rfl 1 rfl ?_
  obtain ⟨c1, H⟩ := ko_o H
  obtain ⟨a2, c3, H⟩ := kr_o H
  refine x_getR fr_X12_7 dX12_feed_84 c1 rfl c3 ?_
  refine x_aload_n dX12_feed_87 rfl 1 rfl ?_
  refine x_getI fr_X12_222 dX12_feed_88 c1 rfl ?_
  refine x_iload dX12_feed_91 0 rfl ?_
  refine x_bipush (v := 8) dX12_feed_93 (by decide) ?_
  refine x_iconst (v := 3) dX12_feed_95 (by decide) ?_
  refine x_iload dX12_feed_96 7 rfl ?_
  refine x_iconst (v := 4) dX12_feed_98 (by decide) ?_
  refine x_irem dX12_feed_99 (by decide) ?_
  refine x_isub dX12_feed_100 ?_
  refine x_imul dX12_feed_101 ?_
  refine x_ishr dX12_feed_102 ?_
  refine x_sipush (v := 255) dX12_feed_103 (by decide) ?_
  refine x_iand dX12_feed_106 ?_
  obtain ⟨n5, c4, H⟩ := ka_o H
  obtain ⟨c6, H⟩ := chk_o H
  refine x_iast dX12_feed_107 c4 (inb_in.mp c6) ?_
  refine x_aload_n dX12_feed_108 rfl 1 rfl ?_
  refine x_dup dX12_feed_109 rfl ?_
  obtain ⟨v7, ev7, H⟩ := nm_o H
  refine x_getIe fr_X12_222 dX12_feed_110 c1 rfl ev7 ?_
  refine x_iconst (v := 1) dX12_feed_113 (by decide) ?_
  refine x_iadd dX12_feed_114 ?_
  refine x_putI fl_X12_222 dX12_feed_115 c1 (fun e => by cases e) rfl ?_
  obtain ⟨v8, ev8, H⟩ := nm_o H
  refine x_iinc (v := v8) (lv' := [(6, .int v8), (7, .int s0), (0, .ref x0), (1, .int x1), (2, .int x2), (3, .int x3), (4, .int x4), (5, .int x5)]) dX12_feed_118 7 rfl (by decide) ev8 rfl ?_
  refine x_goto (tgt := 28) dX12_feed_121 (by decide) ?_
  refine Ex.sub [2, 3, 4, 5, 6, 7, 0] rfl ?_
  exact hk28 H
def b_X12_feed_28 (k28 : Nat → Int32 → Int32 → Int32 → Int32 → Int32 → Int32 → aH → Option (Int32 × aH)) (x0 : Nat) (x1 : Int32) (x2 : Int32) (x3 : Int32) (x4 : Int32) (x5 : Int32) (x6 : Int32) (h : aH) : Option (Int32 × aH) :=
  if 20 ≤ x6 then
    ko h x0 11 <|
    some (hI h x0 1, h)
  else
    if 4 ≤ x6 then
      if 8 ≤ x6 then
        if 12 ≤ x6 then
          if 16 ≤ x6 then
            f_X12_feed_81 k28 x0 x1 x2 x3 x4 x5 x6 x5 h
          else
            f_X12_feed_81 k28 x0 x1 x2 x3 x4 x5 x6 x4 h
        else
          f_X12_feed_81 k28 x0 x1 x2 x3 x4 x5 x6 x3 h
      else
        f_X12_feed_81 k28 x0 x1 x2 x3 x4 x5 x6 x2 h
    else
      f_X12_feed_81 k28 x0 x1 x2 x3 x4 x5 x6 x1 h
set_option maxRecDepth 100000 in
set_option maxHeartbeats 4000000 in
theorem tb_X12_feed_28 {Γ : gS} {d : Nat} (hd : 0 ≤ d) {k28 : Nat → Int32 → Int32 → Int32 → Int32 → Int32 → Int32 → aH → Option (Int32 × aH)} (hk28 : ∀ {x0 : Nat} {x1 : Int32} {x2 : Int32} {x3 : Int32} {x4 : Int32} {x5 : Int32} {x6 : Int32} {h : aH} {r : Int32} {h' : aH}, k28 x0 x1 x2 x3 x4 x5 x6 h = some (r, h') → Ex Γ gX12_feed d 28 [(0, .ref x0), (1, .int x1), (2, .int x2), (3, .int x3), (4, .int x4), (5, .int x5), (6, .int x6)] [] h (some (.int r)) h') {x0 : Nat} {x1 : Int32} {x2 : Int32} {x3 : Int32} {x4 : Int32} {x5 : Int32} {x6 : Int32} {h : aH} {r : Int32} {h' : aH} (H : b_X12_feed_28 k28 x0 x1 x2 x3 x4 x5 x6 h = some (r, h')) : Ex Γ gX12_feed d 28 [(0, .ref x0), (1, .int x1), (2, .int x2), (3, .int x3), (4, .int x4), (5, .int x5), (6, .int x6)] [] h (some (.int r)) h' := by
  unfold b_X12_feed_28 at H
  refine x_iload dX12_feed_28 6 rfl ?_
  refine x_bipush (v := 20) dX12_feed_30 (by decide) ?_
  refine x_icmp_ge (tgt := 124) dX12_feed_32 (by decide) (fun c9 => ?_) (fun c9 => ?_)
  · replace H := ite_p H c9
    refine x_aload_n dX12_feed_124 rfl 0 rfl ?_
    obtain ⟨c10, H⟩ := ko_o H
    refine x_getI fr_X12_222 dX12_feed_125 c10 rfl ?_
    obtain ⟨rfl, rfl⟩ := so_1 H
    exact x_iret dX12_feed_128 rfl rfl
  · replace H := ite_m H c9
    refine x_iload dX12_feed_35 6 rfl ?_
    refine x_iconst (v := 4) dX12_feed_37 (by decide) ?_
    refine x_icmp_ge (tgt := 45) dX12_feed_38 (by decide) (fun c11 => ?_) (fun c11 => ?_)
    · replace H := ite_p H c11
      refine x_iload dX12_feed_45 6 rfl ?_
      refine x_bipush (v := 8) dX12_feed_47 (by decide) ?_
      refine x_icmp_ge (tgt := 56) dX12_feed_49 (by decide) (fun c12 => ?_) (fun c12 => ?_)
      · replace H := ite_p H c12
        refine x_iload dX12_feed_56 6 rfl ?_
        refine x_bipush (v := 12) dX12_feed_58 (by decide) ?_
        refine x_icmp_ge (tgt := 67) dX12_feed_60 (by decide) (fun c13 => ?_) (fun c13 => ?_)
        · replace H := ite_p H c13
          refine x_iload dX12_feed_67 6 rfl ?_
          refine x_bipush (v := 16) dX12_feed_69 (by decide) ?_
          refine x_icmp_ge (tgt := 79) dX12_feed_71 (by decide) (fun c14 => ?_) (fun c14 => ?_)
          · replace H := ite_p H c14
            refine x_iload dX12_feed_79 5 rfl ?_
            exact t_X12_feed_81 hd hk28 H
          · replace H := ite_m H c14
            refine x_iload dX12_feed_74 4 rfl ?_
            refine x_goto (tgt := 81) dX12_feed_76 (by decide) ?_
            exact t_X12_feed_81 hd hk28 H
        · replace H := ite_m H c13
          refine x_iload_n dX12_feed_63 rfl 3 rfl ?_
          refine x_goto (tgt := 81) dX12_feed_64 (by decide) ?_
          exact t_X12_feed_81 hd hk28 H
      · replace H := ite_m H c12
        refine x_iload_n dX12_feed_52 rfl 2 rfl ?_
        refine x_goto (tgt := 81) dX12_feed_53 (by decide) ?_
        exact t_X12_feed_81 hd hk28 H
    · replace H := ite_m H c11
      refine x_iload_n dX12_feed_41 rfl 1 rfl ?_
      refine x_goto (tgt := 81) dX12_feed_42 (by decide) ?_
      exact t_X12_feed_81 hd hk28 H
def f_X12_feed_28 : Nat → Nat → Int32 → Int32 → Int32 → Int32 → Int32 → Int32 → aH → Option (Int32 × aH)
  | 0 => fun _ _ _ _ _ _ _ _ => none
  | n + 1 => b_X12_feed_28 (f_X12_feed_28 n)
set_option maxRecDepth 100000 in
set_option maxHeartbeats 4000000 in
theorem t_X12_feed_28 {Γ : gS} {d : Nat} (hd : 0 ≤ d) (n : Nat) : ∀ {x0 : Nat} {x1 : Int32} {x2 : Int32} {x3 : Int32} {x4 : Int32} {x5 : Int32} {x6 : Int32} {h : aH} {r : Int32} {h' : aH}, f_X12_feed_28 n x0 x1 x2 x3 x4 x5 x6 h = some (r, h') → Ex Γ gX12_feed d 28 [(0, .ref x0), (1, .int x1), (2, .int x2), (3, .int x3), (4, .int x4), (5, .int x5), (6, .int x6)] [] h (some (.int r)) h' := by
  induction n with
  | zero => intro x0 x1 x2 x3 x4 x5 x6 h r h' H; cases H
  | succ n ih => intro x0 x1 x2 x3 x4 x5 x6 h r h' H; exact tb_X12_feed_28 hd ih H
def f_X12_feed (x0 : Nat) (x1 : Int32) (x2 : Int32) (x3 : Int32) (x4 : Int32) (x5 : Int32) (h : aH) : Option (Int32 × aH) :=
  ko h x0 11 <|
  if ((hI h x0 1) + 20) ≤ 1600 then
    f_X12_feed_28 FU x0 x1 x2 x3 x4 x5 0 h
  else
    kr (hR h x0 9) fun a17 =>
    ka h a17 .int fun n20 =>
    chk (inb 0 n20 = true) <|
    some ((-1), sI h a17 (0 : Int32).toNatClampNeg ((hI h a17 (0 : Int32).toNatClampNeg) + 1))
set_option maxRecDepth 100000 in
set_option maxHeartbeats 4000000 in
theorem t_X12_feed {Γ : gS} {d : Nat} (hd : 0 ≤ d) {x0 : Nat} {x1 : Int32} {x2 : Int32} {x3 : Int32} {x4 : Int32} {x5 : Int32} {h : aH} {r : Int32} {h' : aH} (H : f_X12_feed x0 x1 x2 x3 x4 x5 h = some (r, h')) : Mx Γ gX12_feed d [.ref x0, .int x1, .int x2, .int x3, .int x4, .int x5] h (some (.int r)) h' := by
  refine Mx.of (by decide +kernel) (Nat.le_of_ble_eq_true rfl) ?_
  unfold f_X12_feed at H
  show Ex Γ gX12_feed d 0 [(0, .ref x0), (1, .int x1), (2, .int x2), (3, .int x3), (4, .int x4), (5, .int x5)] [] h (some (.int r)) h'
  refine x_aload_n dX12_feed_0 rfl 0 rfl ?_
  obtain ⟨c15, H⟩ := ko_o H
  refine x_getI fr_X12_222 dX12_feed_1 c15 rfl ?_
  refine x_bipush (v := 20) dX12_feed_4 (by decide) ?_
  refine x_iadd dX12_feed_6 ?_
  refine x_sipush (v := 1600) dX12_feed_7 (by decide) ?_
  refine x_icmp_le (tgt := 25) dX12_feed_10 (by decide) (fun c16 => ?_) (fun c16 => ?_)
  · replace H := ite_p H c16
    refine x_iconst (v := 0) dX12_feed_25 (by decide) ?_
    refine x_istore (lv' := [(6, .int 0), (0, .ref x0), (1, .int x1), (2, .int x2), (3, .int x3), (4, .int x4), (5, .int x5)]) dX12_feed_26 (by decide) rfl rfl ?_
    refine Ex.sub [1, 2, 3, 4, 5, 6, 0] rfl ?_
    exact t_X12_feed_28 hd FU H
  · replace H := ite_m H c16
    refine x_aload_n dX12_feed_13 rfl 0 rfl ?_
    obtain ⟨a17, c18, H⟩ := kr_o H
    refine x_getR fr_X12_17 dX12_feed_14 c15 rfl c18 ?_
    refine x_iconst (v := 0) dX12_feed_17 (by decide) ?_
    refine x_dup2 dX12_feed_18 rfl rfl ?_
    obtain ⟨n20, c19, H⟩ := ka_o H
    obtain ⟨c21, H⟩ := chk_o H
    refine x_iald dX12_feed_19 c19 (inb_in.mp c21) ?_
    refine x_iconst (v := 1) dX12_feed_20 (by decide) ?_
    refine x_iadd dX12_feed_21 ?_
    refine x_iast dX12_feed_22 c19 (inb_in.mp c21) ?_
    refine x_iconst (v := (-1)) dX12_feed_23 (by decide) ?_
    obtain ⟨rfl, rfl⟩ := so_1 H
    exact x_iret dX12_feed_24 rfl rfl
def f_X12_end_12 (x0 : Nat) (h : aH) : Option (Int32 × aH) :=
  ko h x0 11 <|
  kr (hR h x0 9) fun a2 =>
  ka h a2 .int fun n5 =>
  chk (inb 0 n5 = true) <|
  some (0, sI h a2 (0 : Int32).toNatClampNeg ((hI h a2 (0 : Int32).toNatClampNeg) + 1))
set_option maxRecDepth 100000 in
set_option maxHeartbeats 4000000 in
theorem t_X12_end_12 {Γ : gS} {d : Nat} (hd : 0 ≤ d) {x0 : Nat} {h : aH} {r : Int32} {h' : aH} (H : f_X12_end_12 x0 h = some (r, h')) : Ex Γ gX12_end d 12 [(0, .ref x0)] [] h (some (.int r)) h' := by
  unfold f_X12_end_12 at H
  refine x_aload_n dX12_end_12 rfl 0 rfl ?_
  obtain ⟨c1, H⟩ := ko_o H
  obtain ⟨a2, c3, H⟩ := kr_o H
  refine x_getR fr_X12_17 dX12_end_13 c1 rfl c3 ?_
  refine x_iconst (v := 0) dX12_end_16 (by decide) ?_
  refine x_dup2 dX12_end_17 rfl rfl ?_
  obtain ⟨n5, c4, H⟩ := ka_o H
  obtain ⟨c6, H⟩ := chk_o H
  refine x_iald dX12_end_18 c4 (inb_in.mp c6) ?_
  refine x_iconst (v := 1) dX12_end_19 (by decide) ?_
  refine x_iadd dX12_end_20 ?_
  refine x_iast dX12_end_21 c4 (inb_in.mp c6) ?_
  refine x_iconst (v := 0) dX12_end_22 (by decide) ?_
  obtain ⟨rfl, rfl⟩ := so_1 H
  exact x_iret dX12_end_23 rfl (by decide)
def f_X12_end (x0 : Nat) (x1 : Int32) (h : aH) : Option (Int32 × aH) :=
  if x1 < 0 then
    f_X12_end_12 x0 h
  else
    ko h x0 11 <|
    if x1 ≤ (hI h x0 1) then
      some (1, sI h x0 1 x1)
    else
      f_X12_end_12 x0 h
set_option maxRecDepth 100000 in
set_option maxHeartbeats 4000000 in
theorem t_X12_end {Γ : gS} {d : Nat} (hd : 0 ≤ d) {x0 : Nat} {x1 : Int32} {h : aH} {r : Int32} {h' : aH} (H : f_X12_end x0 x1 h = some (r, h')) : Mx Γ gX12_end d [.ref x0, .int x1] h (some (.int r)) h' := by
  refine Mx.of (by decide +kernel) (Nat.le_of_ble_eq_true rfl) ?_
  unfold f_X12_end at H
  show Ex Γ gX12_end d 0 [(0, .ref x0), (1, .int x1)] [] h (some (.int r)) h'
  refine x_iload_n dX12_end_0 rfl 1 rfl ?_
  refine x_if_lt (tgt := 12) dX12_end_1 (by decide) (fun c7 => ?_) (fun c7 => ?_)
  · replace H := ite_p H c7
    refine Ex.sub [0] rfl ?_
    exact t_X12_end_12 hd H
  · replace H := ite_m H c7
    refine x_iload_n dX12_end_4 rfl 1 rfl ?_
    refine x_aload_n dX12_end_5 rfl 0 rfl ?_
    obtain ⟨c8, H⟩ := ko_o H
    refine x_getI fr_X12_222 dX12_end_6 c8 rfl ?_
    refine x_icmp_le (tgt := 24) dX12_end_9 (by decide) (fun c9 => ?_) (fun c9 => ?_)
    · replace H := ite_p H c9
      refine x_aload_n dX12_end_24 rfl 0 rfl ?_
      refine x_iload_n dX12_end_25 rfl 1 rfl ?_
      refine x_putI fl_X12_222 dX12_end_26 c8 (fun e => by cases e) rfl ?_
      refine x_iconst (v := 1) dX12_end_29 (by decide) ?_
      obtain ⟨rfl, rfl⟩ := so_1 H
      exact x_iret dX12_end_30 rfl (by decide)
    · replace H := ite_m H c9
      refine Ex.sub [0] rfl ?_
      exact t_X12_end_12 hd H
def f_X12_fail (x0 : Nat) (x1 : Int32) (x2 : Int32) (h : aH) : Option (Unit × aH) :=
  ko h x0 11 <|
  if (hI h x0 5) = 0 then
    some ((), sI (sI h x0 5 x1) x0 6 x2)
  else
    some ((), h)
set_option maxRecDepth 100000 in
set_option maxHeartbeats 4000000 in
theorem t_X12_fail {Γ : gS} {d : Nat} (hd : 0 ≤ d) {x0 : Nat} {x1 : Int32} {x2 : Int32} {h : aH} {r : Unit} {h' : aH} (H : f_X12_fail x0 x1 x2 h = some (r, h')) : Mx Γ gX12_fail d [.ref x0, .int x1, .int x2] h none h' := by
  refine Mx.of (by decide +kernel) (Nat.le_of_ble_eq_true rfl) ?_
  unfold f_X12_fail at H
  show Ex Γ gX12_fail d 0 [(0, .ref x0), (1, .int x1), (2, .int x2)] [] h none h'
  refine x_aload_n dX12_fail_0 rfl 0 rfl ?_
  obtain ⟨c1, H⟩ := ko_o H
  refine x_getI fr_X12_225 dX12_fail_1 c1 rfl ?_
  refine x_if_eq (tgt := 8) dX12_fail_4 (by decide) (fun c2 => ?_) (fun c2 => ?_)
  · replace H := ite_p H c2
    refine x_aload_n dX12_fail_8 rfl 0 rfl ?_
    refine x_iload_n dX12_fail_9 rfl 1 rfl ?_
    refine x_putI fl_X12_225 dX12_fail_10 c1 (fun e => by cases e) rfl ?_
    refine x_aload_n dX12_fail_13 rfl 0 rfl ?_
    refine x_iload_n dX12_fail_14 rfl 2 rfl ?_
    refine x_putI fl_X12_228 dX12_fail_15 c1 (fun e => by cases e) rfl ?_
    obtain ⟨-, rfl⟩ := so_1 H
    exact x_vret dX12_fail_18 rfl
  · replace H := ite_m H c2
    obtain ⟨-, rfl⟩ := so_1 H
    exact x_vret dX12_fail_7 rfl
def f_X12_isLetter_17 (s0 : Int32) (h : aH) : Option (Int32 × aH) :=
  chk (narrow .boolean (.int s0) = .int s0) <|
  some (s0, h)
set_option maxRecDepth 100000 in
set_option maxHeartbeats 4000000 in
theorem t_X12_isLetter_17 {Γ : gS} {d : Nat} (hd : 0 ≤ d) {s0 : Int32} {h : aH} {r : Int32} {h' : aH} (H : f_X12_isLetter_17 s0 h = some (r, h')) : Ex Γ gX12_isLetter d 17 [] [.int s0] h (some (.int r)) h' := by
  unfold f_X12_isLetter_17 at H
  obtain ⟨c1, H⟩ := chk_o H
  obtain ⟨rfl, rfl⟩ := so_1 H
  exact x_iret dX12_isLetter_17 rfl c1
def f_X12_isLetter_16 (h : aH) : Option (Int32 × aH) :=
  f_X12_isLetter_17 0 h
set_option maxRecDepth 100000 in
set_option maxHeartbeats 4000000 in
theorem t_X12_isLetter_16 {Γ : gS} {d : Nat} (hd : 0 ≤ d) {h : aH} {r : Int32} {h' : aH} (H : f_X12_isLetter_16 h = some (r, h')) : Ex Γ gX12_isLetter d 16 [] [] h (some (.int r)) h' := by
  unfold f_X12_isLetter_16 at H
  refine x_iconst (v := 0) dX12_isLetter_16 (by decide) ?_
  exact t_X12_isLetter_17 hd H
def f_X12_isLetter (x0 : Int32) (h : aH) : Option (Int32 × aH) :=
  if x0 < 97 then
    f_X12_isLetter_16 h
  else
    if 122 < x0 then
      f_X12_isLetter_16 h
    else
      f_X12_isLetter_17 1 h
set_option maxRecDepth 100000 in
set_option maxHeartbeats 4000000 in
theorem t_X12_isLetter {Γ : gS} {d : Nat} (hd : 0 ≤ d) {x0 : Int32} {h : aH} {r : Int32} {h' : aH} (H : f_X12_isLetter x0 h = some (r, h')) : Mx Γ gX12_isLetter d [.int x0] h (some (.int r)) h' := by
  refine Mx.of (by decide +kernel) (Nat.le_of_ble_eq_true rfl) ?_
  unfold f_X12_isLetter at H
  show Ex Γ gX12_isLetter d 0 [(0, .int x0)] [] h (some (.int r)) h'
  refine x_iload_n dX12_isLetter_0 rfl 0 rfl ?_
  refine x_bipush (v := 97) dX12_isLetter_1 (by decide) ?_
  refine x_icmp_lt (tgt := 16) dX12_isLetter_3 (by decide) (fun c2 => ?_) (fun c2 => ?_)
  · replace H := ite_p H c2
    refine Ex.sub [] rfl ?_
    exact t_X12_isLetter_16 hd H
  · replace H := ite_m H c2
    refine x_iload_n dX12_isLetter_6 rfl 0 rfl ?_
    refine x_bipush (v := 122) dX12_isLetter_7 (by decide) ?_
    refine x_icmp_gt (tgt := 16) dX12_isLetter_9 (by decide) (fun c3 => ?_) (fun c3 => ?_)
    · replace H := ite_p H c3
      refine Ex.sub [] rfl ?_
      exact t_X12_isLetter_16 hd H
    · replace H := ite_m H c3
      refine x_iconst (v := 1) dX12_isLetter_12 (by decide) ?_
      refine x_goto (tgt := 17) dX12_isLetter_13 (by decide) ?_
      refine Ex.sub [] rfl ?_
      exact t_X12_isLetter_17 hd H
def f_X12_isDigit_17 (s0 : Int32) (h : aH) : Option (Int32 × aH) :=
  chk (narrow .boolean (.int s0) = .int s0) <|
  some (s0, h)
set_option maxRecDepth 100000 in
set_option maxHeartbeats 4000000 in
theorem t_X12_isDigit_17 {Γ : gS} {d : Nat} (hd : 0 ≤ d) {s0 : Int32} {h : aH} {r : Int32} {h' : aH} (H : f_X12_isDigit_17 s0 h = some (r, h')) : Ex Γ gX12_isDigit d 17 [] [.int s0] h (some (.int r)) h' := by
  unfold f_X12_isDigit_17 at H
  obtain ⟨c1, H⟩ := chk_o H
  obtain ⟨rfl, rfl⟩ := so_1 H
  exact x_iret dX12_isDigit_17 rfl c1
def f_X12_isDigit_16 (h : aH) : Option (Int32 × aH) :=
  f_X12_isDigit_17 0 h
set_option maxRecDepth 100000 in
set_option maxHeartbeats 4000000 in
theorem t_X12_isDigit_16 {Γ : gS} {d : Nat} (hd : 0 ≤ d) {h : aH} {r : Int32} {h' : aH} (H : f_X12_isDigit_16 h = some (r, h')) : Ex Γ gX12_isDigit d 16 [] [] h (some (.int r)) h' := by
  unfold f_X12_isDigit_16 at H
  refine x_iconst (v := 0) dX12_isDigit_16 (by decide) ?_
  exact t_X12_isDigit_17 hd H
def f_X12_isDigit (x0 : Int32) (h : aH) : Option (Int32 × aH) :=
  if x0 < 48 then
    f_X12_isDigit_16 h
  else
    if 57 < x0 then
      f_X12_isDigit_16 h
    else
      f_X12_isDigit_17 1 h
set_option maxRecDepth 100000 in
set_option maxHeartbeats 4000000 in
theorem t_X12_isDigit {Γ : gS} {d : Nat} (hd : 0 ≤ d) {x0 : Int32} {h : aH} {r : Int32} {h' : aH} (H : f_X12_isDigit x0 h = some (r, h')) : Mx Γ gX12_isDigit d [.int x0] h (some (.int r)) h' := by
  refine Mx.of (by decide +kernel) (Nat.le_of_ble_eq_true rfl) ?_
  unfold f_X12_isDigit at H
  show Ex Γ gX12_isDigit d 0 [(0, .int x0)] [] h (some (.int r)) h'
  refine x_iload_n dX12_isDigit_0 rfl 0 rfl ?_
  refine x_bipush (v := 48) dX12_isDigit_1 (by decide) ?_
  refine x_icmp_lt (tgt := 16) dX12_isDigit_3 (by decide) (fun c2 => ?_) (fun c2 => ?_)
  · replace H := ite_p H c2
    refine Ex.sub [] rfl ?_
    exact t_X12_isDigit_16 hd H
  · replace H := ite_m H c2
    refine x_iload_n dX12_isDigit_6 rfl 0 rfl ?_
    refine x_bipush (v := 57) dX12_isDigit_7 (by decide) ?_
    refine x_icmp_gt (tgt := 16) dX12_isDigit_9 (by decide) (fun c3 => ?_) (fun c3 => ?_)
    · replace H := ite_p H c3
      refine Ex.sub [] rfl ?_
      exact t_X12_isDigit_16 hd H
    · replace H := ite_m H c3
      refine x_iconst (v := 1) dX12_isDigit_12 (by decide) ?_
      refine x_goto (tgt := 17) dX12_isDigit_13 (by decide) ?_
      refine Ex.sub [] rfl ?_
      exact t_X12_isDigit_17 hd H
def f_X12_look_39 (k0 : Nat → aH → Option (Int32 × aH)) (x0 : Nat) (h : aH) : Option (Int32 × aH) :=
  ko h x0 11 <|
  k0 x0 (sI h x0 2 ((hI h x0 2) + 1))
set_option maxRecDepth 100000 in
set_option maxHeartbeats 4000000 in
theorem t_X12_look_39 {Γ : gS} {d : Nat} (hd : 0 ≤ d) {k0 : Nat → aH → Option (Int32 × aH)} (hk0 : ∀ {x0 : Nat} {h : aH} {r : Int32} {h' : aH}, k0 x0 h = some (r, h') → Ex Γ gX12_look d 0 [(0, .ref x0)] [] h (some (.int r)) h') {x0 : Nat} {h : aH} {r : Int32} {h' : aH} (H : f_X12_look_39 k0 x0 h = some (r, h')) : Ex Γ gX12_look d 39 [(0, .ref x0)] [] h (some (.int r)) h' := by
  unfold f_X12_look_39 at H
  refine x_aload_n dX12_look_39 rfl 0 rfl ?_
  refine x_dup dX12_look_40 rfl ?_
  obtain ⟨c1, H⟩ := ko_o H
  refine x_getI fr_X12_231 dX12_look_41 c1 rfl ?_
  refine x_iconst (v := 1) dX12_look_44 (by decide) ?_
  refine x_iadd dX12_look_45 ?_
  refine x_putI fl_X12_231 dX12_look_46 c1 (fun e => by cases e) rfl ?_
  refine x_goto (tgt := 0) dX12_look_49 (by decide) ?_
  exact hk0 H
def f_X12_look_76 (s0 : Int32) (h : aH) : Option (Int32 × aH) :=
  some (s0, h)
set_option maxRecDepth 100000 in
set_option maxHeartbeats 4000000 in
theorem t_X12_look_76 {Γ : gS} {d : Nat} (hd : 0 ≤ d) {s0 : Int32} {h : aH} {r : Int32} {h' : aH} (H : f_X12_look_76 s0 h = some (r, h')) : Ex Γ gX12_look d 76 [] [.int s0] h (some (.int r)) h' := by
  unfold f_X12_look_76 at H
  obtain ⟨rfl, rfl⟩ := so_1 H
  exact x_iret dX12_look_76 rfl rfl
def f_X12_look_52 (x0 : Nat) (h : aH) : Option (Int32 × aH) :=
  ko h x0 11 <|
  if (hI h x0 3) ≤ (hI h x0 2) then
    f_X12_look_76 (-1) h
  else
    kr (hR h x0 0) fun a4 =>
    ka h a4 .int fun n7 =>
    chk (inb (hI h x0 2) n7 = true) <|
    f_X12_look_76 (hI h a4 (hI h x0 2 : Int32).toNatClampNeg) h
set_option maxRecDepth 100000 in
set_option maxHeartbeats 4000000 in
theorem t_X12_look_52 {Γ : gS} {d : Nat} (hd : 0 ≤ d) {x0 : Nat} {h : aH} {r : Int32} {h' : aH} (H : f_X12_look_52 x0 h = some (r, h')) : Ex Γ gX12_look d 52 [(0, .ref x0)] [] h (some (.int r)) h' := by
  unfold f_X12_look_52 at H
  refine x_aload_n dX12_look_52 rfl 0 rfl ?_
  obtain ⟨c2, H⟩ := ko_o H
  refine x_getI fr_X12_231 dX12_look_53 c2 rfl ?_
  refine x_aload_n dX12_look_56 rfl 0 rfl ?_
  refine x_getI fr_X12_234 dX12_look_57 c2 rfl ?_
  refine x_icmp_ge (tgt := 75) dX12_look_60 (by decide) (fun c3 => ?_) (fun c3 => ?_)
  · replace H := ite_p H c3
    refine x_iconst (v := (-1)) dX12_look_75 (by decide) ?_
    refine Ex.sub [] rfl ?_
    exact t_X12_look_76 hd H
  · replace H := ite_m H c3
    refine x_aload_n dX12_look_63 rfl 0 rfl ?_
    obtain ⟨a4, c5, H⟩ := kr_o H
    refine x_getR fr_X12_7 dX12_look_64 c2 rfl c5 ?_
    refine x_aload_n dX12_look_67 rfl 0 rfl ?_
    refine x_getI fr_X12_231 dX12_look_68 c2 rfl ?_
    obtain ⟨n7, c6, H⟩ := ka_o H
    obtain ⟨c8, H⟩ := chk_o H
    refine x_iald dX12_look_71 c6 (inb_in.mp c8) ?_
    refine x_goto (tgt := 76) dX12_look_72 (by decide) ?_
    refine Ex.sub [] rfl ?_
    exact t_X12_look_76 hd H
def b_X12_look_0 (k0 : Nat → aH → Option (Int32 × aH)) (x0 : Nat) (h : aH) : Option (Int32 × aH) :=
  ko h x0 11 <|
  if (hI h x0 3) ≤ (hI h x0 2) then
    f_X12_look_52 x0 h
  else
    kr (hR h x0 0) fun a11 =>
    ka h a11 .int fun n14 =>
    chk (inb (hI h x0 2) n14 = true) <|
    if (hI h a11 (hI h x0 2 : Int32).toNatClampNeg) = 10 then
      f_X12_look_39 k0 x0 h
    else
      if (hI h a11 (hI h x0 2 : Int32).toNatClampNeg) = 32 then
        f_X12_look_39 k0 x0 h
      else
        f_X12_look_52 x0 h
set_option maxRecDepth 100000 in
set_option maxHeartbeats 4000000 in
theorem tb_X12_look_0 {Γ : gS} {d : Nat} (hd : 0 ≤ d) {k0 : Nat → aH → Option (Int32 × aH)} (hk0 : ∀ {x0 : Nat} {h : aH} {r : Int32} {h' : aH}, k0 x0 h = some (r, h') → Ex Γ gX12_look d 0 [(0, .ref x0)] [] h (some (.int r)) h') {x0 : Nat} {h : aH} {r : Int32} {h' : aH} (H : b_X12_look_0 k0 x0 h = some (r, h')) : Ex Γ gX12_look d 0 [(0, .ref x0)] [] h (some (.int r)) h' := by
  unfold b_X12_look_0 at H
  refine x_aload_n dX12_look_0 rfl 0 rfl ?_
  obtain ⟨c9, H⟩ := ko_o H
  refine x_getI fr_X12_231 dX12_look_1 c9 rfl ?_
  refine x_aload_n dX12_look_4 rfl 0 rfl ?_
  refine x_getI fr_X12_234 dX12_look_5 c9 rfl ?_
  refine x_icmp_ge (tgt := 52) dX12_look_8 (by decide) (fun c10 => ?_) (fun c10 => ?_)
  · replace H := ite_p H c10
    exact t_X12_look_52 hd H
  · replace H := ite_m H c10
    refine x_aload_n dX12_look_11 rfl 0 rfl ?_
    obtain ⟨a11, c12, H⟩ := kr_o H
    refine x_getR fr_X12_7 dX12_look_12 c9 rfl c12 ?_
    refine x_aload_n dX12_look_15 rfl 0 rfl ?_
    refine x_getI fr_X12_231 dX12_look_16 c9 rfl ?_
    obtain ⟨n14, c13, H⟩ := ka_o H
    obtain ⟨c15, H⟩ := chk_o H
    refine x_iald dX12_look_19 c13 (inb_in.mp c15) ?_
    refine x_bipush (v := 10) dX12_look_20 (by decide) ?_
    refine x_icmp_eq (tgt := 39) dX12_look_22 (by decide) (fun c16 => ?_) (fun c16 => ?_)
    · replace H := ite_p H c16
      exact t_X12_look_39 hd hk0 H
    · replace H := ite_m H c16
      refine x_aload_n dX12_look_25 rfl 0 rfl ?_
      refine x_getR fr_X12_7 dX12_look_26 c9 rfl c12 ?_
      refine x_aload_n dX12_look_29 rfl 0 rfl ?_
      refine x_getI fr_X12_231 dX12_look_30 c9 rfl ?_
      refine x_iald dX12_look_33 c13 (inb_in.mp c15) ?_
      refine x_bipush (v := 32) dX12_look_34 (by decide) ?_
      refine x_icmp_ne (tgt := 52) dX12_look_36 (by decide) (fun c17 => ?_) (fun c17 => ?_)
      · replace H := ite_m H c17
        exact t_X12_look_52 hd H
      · replace H := ite_p H c17
        exact t_X12_look_39 hd hk0 H
def f_X12_look_0 : Nat → Nat → aH → Option (Int32 × aH)
  | 0 => fun _ _ => none
  | n + 1 => b_X12_look_0 (f_X12_look_0 n)
set_option maxRecDepth 100000 in
set_option maxHeartbeats 4000000 in
theorem t_X12_look_0 {Γ : gS} {d : Nat} (hd : 0 ≤ d) (n : Nat) : ∀ {x0 : Nat} {h : aH} {r : Int32} {h' : aH}, f_X12_look_0 n x0 h = some (r, h') → Ex Γ gX12_look d 0 [(0, .ref x0)] [] h (some (.int r)) h' := by
  induction n with
  | zero => intro x0 h r h' H; cases H
  | succ n ih => intro x0 h r h' H; exact tb_X12_look_0 hd ih H
def f_X12_look (x0 : Nat) (h : aH) : Option (Int32 × aH) :=
  f_X12_look_0 FU x0 h
set_option maxRecDepth 100000 in
set_option maxHeartbeats 4000000 in
theorem t_X12_look {Γ : gS} {d : Nat} (hd : 0 ≤ d) {x0 : Nat} {h : aH} {r : Int32} {h' : aH} (H : f_X12_look x0 h = some (r, h')) : Mx Γ gX12_look d [.ref x0] h (some (.int r)) h' := by
  refine Mx.of (by decide +kernel) (Nat.le_of_ble_eq_true rfl) ?_
  unfold f_X12_look at H
  show Ex Γ gX12_look d 0 [(0, .ref x0)] [] h (some (.int r)) h'
  exact t_X12_look_0 hd FU H
def f_X12_isHere_28 (h : aH) : Option (Int32 × aH) :=
  some (0, h)
set_option maxRecDepth 100000 in
set_option maxHeartbeats 4000000 in
theorem t_X12_isHere_28 {Γ : gS} {d : Nat} (hd : 1 ≤ d) {h : aH} {r : Int32} {h' : aH} (H : f_X12_isHere_28 h = some (r, h')) : Ex Γ gX12_isHere d 28 [] [] h (some (.int r)) h' := by
  unfold f_X12_isHere_28 at H
  obtain ⟨d, rfl⟩ : ∃ e, d = e + 1 := ⟨d - 1, by omega⟩
  refine x_iconst (v := 0) dX12_isHere_28 (by decide) ?_
  obtain ⟨rfl, rfl⟩ := so_1 H
  exact x_iret dX12_isHere_29 rfl (by decide)
def b_X12_isHere_76 (k76 : Nat → Nat → Int32 → aH → Option (Int32 × aH)) (x0 : Nat) (x1 : Nat) (x3 : Int32) (h : aH) : Option (Int32 × aH) :=
  ka h x1 .char fun n2 =>
  if (Int32.ofNat n2) ≤ x3 then
    some (1, h)
  else
    ko h x0 11 <|
    kr (hR h x0 0) fun a5 =>
    ka h a5 .int fun n8 =>
    chk (inb ((hI h x0 2) + x3) n8 = true) <|
    chk (inb x3 n2 = true) <|
    if (hI h a5 ((hI h x0 2) + x3 : Int32).toNatClampNeg) = (hI h x1 x3.toNatClampNeg) then
      nm (x3 + 1) fun (v12 : Int32) =>
      k76 x0 x1 v12 h
    else
      some (0, h)
set_option maxRecDepth 100000 in
set_option maxHeartbeats 4000000 in
theorem tb_X12_isHere_76 {Γ : gS} {d : Nat} (hd : 1 ≤ d) {k76 : Nat → Nat → Int32 → aH → Option (Int32 × aH)} (hk76 : ∀ {x0 : Nat} {x1 : Nat} {x3 : Int32} {h : aH} {r : Int32} {h' : aH}, k76 x0 x1 x3 h = some (r, h') → Ex Γ gX12_isHere d 76 [(0, .ref x0), (1, .ref x1), (3, .int x3)] [] h (some (.int r)) h') {x0 : Nat} {x1 : Nat} {x3 : Int32} {h : aH} {r : Int32} {h' : aH} (H : b_X12_isHere_76 k76 x0 x1 x3 h = some (r, h')) : Ex Γ gX12_isHere d 76 [(0, .ref x0), (1, .ref x1), (3, .int x3)] [] h (some (.int r)) h' := by
  unfold b_X12_isHere_76 at H
  obtain ⟨d, rfl⟩ : ∃ e, d = e + 1 := ⟨d - 1, by omega⟩
  refine x_iload_n dX12_isHere_76 rfl 2 rfl ?_
  refine x_aload_n dX12_isHere_77 rfl 1 rfl ?_
  obtain ⟨n2, c1, H⟩ := ka_o H
  refine x_alen dX12_isHere_78 c1 (by decide) ?_
  refine x_icmp_ge (tgt := 107) dX12_isHere_79 (by decide) (fun c3 => ?_) (fun c3 => ?_)
  · replace H := ite_p H c3
    refine x_iconst (v := 1) dX12_isHere_107 (by decide) ?_
    obtain ⟨rfl, rfl⟩ := so_1 H
    exact x_iret dX12_isHere_108 rfl (by decide)
  · replace H := ite_m H c3
    refine x_aload_n dX12_isHere_82 rfl 0 rfl ?_
    obtain ⟨c4, H⟩ := ko_o H
    obtain ⟨a5, c6, H⟩ := kr_o H
    refine x_getR fr_X12_7 dX12_isHere_83 c4 rfl c6 ?_
    refine x_aload_n dX12_isHere_86 rfl 0 rfl ?_
    refine x_getI fr_X12_231 dX12_isHere_87 c4 rfl ?_
    refine x_iload_n dX12_isHere_90 rfl 2 rfl ?_
    refine x_iadd dX12_isHere_91 ?_
    obtain ⟨n8, c7, H⟩ := ka_o H
    obtain ⟨c9, H⟩ := chk_o H
    refine x_iald dX12_isHere_92 c7 (inb_in.mp c9) ?_
    refine x_aload_n dX12_isHere_93 rfl 1 rfl ?_
    refine x_iload_n dX12_isHere_94 rfl 2 rfl ?_
    obtain ⟨c10, H⟩ := chk_o H
    refine x_cald dX12_isHere_95 c1 (inb_in.mp c10) ?_
    refine x_icmp_eq (tgt := 101) dX12_isHere_96 (by decide) (fun c11 => ?_) (fun c11 => ?_)
    · replace H := ite_p H c11
      obtain ⟨v12, ev12, H⟩ := nm_o H
      refine x_iinc (v := v12) (lv' := [(3, .int v12), (0, .ref x0), (1, .ref x1)]) dX12_isHere_101 2 rfl (by decide) ev12 rfl ?_
      refine x_goto (tgt := 76) dX12_isHere_104 (by decide) ?_
      refine Ex.sub [1, 2, 0] rfl ?_
      exact hk76 H
    · replace H := ite_m H c11
      refine x_iconst (v := 0) dX12_isHere_99 (by decide) ?_
      obtain ⟨rfl, rfl⟩ := so_1 H
      exact x_iret dX12_isHere_100 rfl (by decide)
def f_X12_isHere_76 : Nat → Nat → Nat → Int32 → aH → Option (Int32 × aH)
  | 0 => fun _ _ _ _ => none
  | n + 1 => b_X12_isHere_76 (f_X12_isHere_76 n)
set_option maxRecDepth 100000 in
set_option maxHeartbeats 4000000 in
theorem t_X12_isHere_76 {Γ : gS} {d : Nat} (hd : 1 ≤ d) (n : Nat) : ∀ {x0 : Nat} {x1 : Nat} {x3 : Int32} {h : aH} {r : Int32} {h' : aH}, f_X12_isHere_76 n x0 x1 x3 h = some (r, h') → Ex Γ gX12_isHere d 76 [(0, .ref x0), (1, .ref x1), (3, .int x3)] [] h (some (.int r)) h' := by
  induction n with
  | zero => intro x0 x1 x3 h r h' H; cases H
  | succ n ih => intro x0 x1 x3 h r h' H; exact tb_X12_isHere_76 hd ih H
def f_X12_isHere_61 (x0 : Nat) (x1 : Nat) (x2 : Int32) (h : aH) : Option (Int32 × aH) :=
  ko h x0 11 <|
  ka h x1 .char fun n15 =>
  if (x2 - (hI h x0 2)) = (Int32.ofNat n15) then
    f_X12_isHere_76 FU x0 x1 0 h
  else
    some (0, h)
set_option maxRecDepth 100000 in
set_option maxHeartbeats 4000000 in
theorem t_X12_isHere_61 {Γ : gS} {d : Nat} (hd : 1 ≤ d) {x0 : Nat} {x1 : Nat} {x2 : Int32} {h : aH} {r : Int32} {h' : aH} (H : f_X12_isHere_61 x0 x1 x2 h = some (r, h')) : Ex Γ gX12_isHere d 61 [(0, .ref x0), (1, .ref x1), (2, .int x2)] [] h (some (.int r)) h' := by
  unfold f_X12_isHere_61 at H
  obtain ⟨d, rfl⟩ : ∃ e, d = e + 1 := ⟨d - 1, by omega⟩
  refine x_iload_n dX12_isHere_61 rfl 2 rfl ?_
  refine x_aload_n dX12_isHere_62 rfl 0 rfl ?_
  obtain ⟨c13, H⟩ := ko_o H
  refine x_getI fr_X12_231 dX12_isHere_63 c13 rfl ?_
  refine x_isub dX12_isHere_66 ?_
  refine x_aload_n dX12_isHere_67 rfl 1 rfl ?_
  obtain ⟨n15, c14, H⟩ := ka_o H
  refine x_alen dX12_isHere_68 c14 (by decide) ?_
  refine x_icmp_eq (tgt := 74) dX12_isHere_69 (by decide) (fun c16 => ?_) (fun c16 => ?_)
  · replace H := ite_p H c16
    refine x_iconst (v := 0) dX12_isHere_74 (by decide) ?_
    refine x_istore_n (lv' := [(3, .int 0), (0, .ref x0), (1, .ref x1), (2, .int x2)]) dX12_isHere_75 rfl (by decide) rfl rfl ?_
    refine Ex.sub [1, 2, 0] rfl ?_
    exact t_X12_isHere_76 hd FU H
  · replace H := ite_m H c16
    refine x_iconst (v := 0) dX12_isHere_72 (by decide) ?_
    obtain ⟨rfl, rfl⟩ := so_1 H
    exact x_iret dX12_isHere_73 rfl (by decide)
def b_X12_isHere_35 (k35 : Nat → Nat → Int32 → aH → Option (Int32 × aH)) (x0 : Nat) (x1 : Nat) (x2 : Int32) (h : aH) : Option (Int32 × aH) :=
  ko h x0 11 <|
  if (hI h x0 3) ≤ x2 then
    f_X12_isHere_61 x0 x1 x2 h
  else
    kr (hR h x0 0) fun a19 =>
    ka h a19 .int fun n22 =>
    chk (inb x2 n22 = true) <|
    bd (f_X12_isLetter (hI h a19 x2.toNatClampNeg) h) fun v24 h25 =>
    if v24 = 0 then
      f_X12_isHere_61 x0 x1 x2 h25
    else
      nm (x2 + 1) fun (v28 : Int32) =>
      k35 x0 x1 v28 h25
set_option maxRecDepth 100000 in
set_option maxHeartbeats 4000000 in
theorem tb_X12_isHere_35 {Γ : gS} {d : Nat} (hd : 1 ≤ d) {k35 : Nat → Nat → Int32 → aH → Option (Int32 × aH)} (hk35 : ∀ {x0 : Nat} {x1 : Nat} {x2 : Int32} {h : aH} {r : Int32} {h' : aH}, k35 x0 x1 x2 h = some (r, h') → Ex Γ gX12_isHere d 35 [(0, .ref x0), (1, .ref x1), (2, .int x2)] [] h (some (.int r)) h') {x0 : Nat} {x1 : Nat} {x2 : Int32} {h : aH} {r : Int32} {h' : aH} (H : b_X12_isHere_35 k35 x0 x1 x2 h = some (r, h')) : Ex Γ gX12_isHere d 35 [(0, .ref x0), (1, .ref x1), (2, .int x2)] [] h (some (.int r)) h' := by
  unfold b_X12_isHere_35 at H
  obtain ⟨d, rfl⟩ : ∃ e, d = e + 1 := ⟨d - 1, by omega⟩
  refine x_iload_n dX12_isHere_35 rfl 2 rfl ?_
  refine x_aload_n dX12_isHere_36 rfl 0 rfl ?_
  obtain ⟨c17, H⟩ := ko_o H
  refine x_getI fr_X12_234 dX12_isHere_37 c17 rfl ?_
  refine x_icmp_ge (tgt := 61) dX12_isHere_40 (by decide) (fun c18 => ?_) (fun c18 => ?_)
  · replace H := ite_p H c18
    exact t_X12_isHere_61 hd H
  · replace H := ite_m H c18
    refine x_aload_n dX12_isHere_43 rfl 0 rfl ?_
    obtain ⟨a19, c20, H⟩ := kr_o H
    refine x_getR fr_X12_7 dX12_isHere_44 c17 rfl c20 ?_
    refine x_iload_n dX12_isHere_47 rfl 2 rfl ?_
    obtain ⟨n22, c21, H⟩ := ka_o H
    obtain ⟨c23, H⟩ := chk_o H
    refine x_iald dX12_isHere_48 c21 (inb_in.mp c23) ?_
    obtain ⟨v24, h25, hc26, H⟩ := bd_o H
    refine x_callSi (As := [.int (hI h a19 x2.toNatClampNeg)]) dX12_isHere_49 mi_X12_isLetter lk_X12_241 sm_X12_isLetter rfl rfl (Nat.le_of_ble_eq_true rfl) (t_X12_isLetter (by omega) hc26) ?_
    refine x_if_eq (tgt := 61) dX12_isHere_52 (by decide) (fun c27 => ?_) (fun c27 => ?_)
    · replace H := ite_p H c27
      exact t_X12_isHere_61 hd H
    · replace H := ite_m H c27
      obtain ⟨v28, ev28, H⟩ := nm_o H
      refine x_iinc (v := v28) (lv' := [(2, .int v28), (0, .ref x0), (1, .ref x1)]) dX12_isHere_55 2 rfl (by decide) ev28 rfl ?_
      refine x_goto (tgt := 35) dX12_isHere_58 (by decide) ?_
      refine Ex.sub [1, 2, 0] rfl ?_
      exact hk35 H
def f_X12_isHere_35 : Nat → Nat → Nat → Int32 → aH → Option (Int32 × aH)
  | 0 => fun _ _ _ _ => none
  | n + 1 => b_X12_isHere_35 (f_X12_isHere_35 n)
set_option maxRecDepth 100000 in
set_option maxHeartbeats 4000000 in
theorem t_X12_isHere_35 {Γ : gS} {d : Nat} (hd : 1 ≤ d) (n : Nat) : ∀ {x0 : Nat} {x1 : Nat} {x2 : Int32} {h : aH} {r : Int32} {h' : aH}, f_X12_isHere_35 n x0 x1 x2 h = some (r, h') → Ex Γ gX12_isHere d 35 [(0, .ref x0), (1, .ref x1), (2, .int x2)] [] h (some (.int r)) h' := by
  induction n with
  | zero => intro x0 x1 x2 h r h' H; cases H
  | succ n ih => intro x0 x1 x2 h r h' H; exact tb_X12_isHere_35 hd ih H
def f_X12_isHere (x0 : Nat) (x1 : Nat) (h : aH) : Option (Int32 × aH) :=
  ko h x0 11 <|
  if (hI h x0 5) = 0 then
    bd (f_X12_look x0 h) fun v31 h32 =>
    bd (f_X12_isLetter v31 h32) fun v34 h35 =>
    if v34 = 0 then
      f_X12_isHere_28 h35
    else
      ko h35 x0 11 <|
      if (hI h35 x0 2) = (hI h35 x0 4) then
        f_X12_isHere_28 h35
      else
        nm (hI h35 x0 2) fun (v40 : Int32) =>
        f_X12_isHere_35 FU x0 x1 v40 h35
  else
    f_X12_isHere_28 h
set_option maxRecDepth 100000 in
set_option maxHeartbeats 4000000 in
theorem t_X12_isHere {Γ : gS} {d : Nat} (hd : 1 ≤ d) {x0 : Nat} {x1 : Nat} {h : aH} {r : Int32} {h' : aH} (H : f_X12_isHere x0 x1 h = some (r, h')) : Mx Γ gX12_isHere d [.ref x0, .ref x1] h (some (.int r)) h' := by
  refine Mx.of (by decide +kernel) (Nat.le_of_ble_eq_true rfl) ?_
  unfold f_X12_isHere at H
  show Ex Γ gX12_isHere d 0 [(0, .ref x0), (1, .ref x1)] [] h (some (.int r)) h'
  obtain ⟨d, rfl⟩ : ∃ e, d = e + 1 := ⟨d - 1, by omega⟩
  refine x_aload_n dX12_isHere_0 rfl 0 rfl ?_
  obtain ⟨c29, H⟩ := ko_o H
  refine x_getI fr_X12_225 dX12_isHere_1 c29 rfl ?_
  refine x_if_ne (tgt := 28) dX12_isHere_4 (by decide) (fun c30 => ?_) (fun c30 => ?_)
  · replace H := ite_m H c30
    refine Ex.sub [] rfl ?_
    exact t_X12_isHere_28 hd H
  · replace H := ite_p H c30
    refine x_aload_n dX12_isHere_7 rfl 0 rfl ?_
    obtain ⟨v31, h32, hc33, H⟩ := bd_o H
    refine x_callVi (As := []) (q := (RX12, TX12, 103)) dX12_isHere_8 mi_X12_look lk_X12_237 im_X12_look se_X12_look rfl c29 rfl rfl (Nat.le_of_ble_eq_true rfl) (t_X12_look (by omega) hc33) ?_
    obtain ⟨v34, h35, hc36, H⟩ := bd_o H
    refine x_callSi (As := [.int v31]) dX12_isHere_11 mi_X12_isLetter lk_X12_241 sm_X12_isLetter rfl rfl (Nat.le_of_ble_eq_true rfl) (t_X12_isLetter (by omega) hc36) ?_
    refine x_if_eq (tgt := 28) dX12_isHere_14 (by decide) (fun c37 => ?_) (fun c37 => ?_)
    · replace H := ite_p H c37
      refine Ex.sub [] rfl ?_
      exact t_X12_isHere_28 hd H
    · replace H := ite_m H c37
      refine x_aload_n dX12_isHere_17 rfl 0 rfl ?_
      obtain ⟨c38, H⟩ := ko_o H
      refine x_getI fr_X12_231 dX12_isHere_18 c38 rfl ?_
      refine x_aload_n dX12_isHere_21 rfl 0 rfl ?_
      refine x_getI fr_X12_245 dX12_isHere_22 c38 rfl ?_
      refine x_icmp_ne (tgt := 30) dX12_isHere_25 (by decide) (fun c39 => ?_) (fun c39 => ?_)
      · replace H := ite_m H c39
        refine x_aload_n dX12_isHere_30 rfl 0 rfl ?_
        refine x_getI fr_X12_231 dX12_isHere_31 c38 rfl ?_
        obtain ⟨v40, ev40, H⟩ := nm_o H
        refine x_istore_n (lv' := [(2, .int v40), (0, .ref x0), (1, .ref x1)]) dX12_isHere_34 rfl (by decide) ev40 rfl ?_
        refine Ex.sub [1, 2, 0] rfl ?_
        exact t_X12_isHere_35 hd FU H
      · replace H := ite_p H c39
        refine Ex.sub [] rfl ?_
        exact t_X12_isHere_28 hd H
def f_X12_takes (x0 : Nat) (x1 : Nat) (h : aH) : Option (Int32 × aH) :=
  ko h x0 11 <|
  bd (f_X12_isHere x0 x1 h) fun v1 h2 =>
  if v1 = 0 then
    some (0, h2)
  else
    ko h2 x0 11 <|
    ka h2 x1 .char fun n7 =>
    nm (hI (sI h2 x0 2 ((hI h2 x0 2) + (Int32.ofNat n7))) x0 2) fun (v8 : Int32) =>
    some (1, sI (sI h2 x0 2 ((hI h2 x0 2) + (Int32.ofNat n7))) x0 4 v8)
set_option maxRecDepth 100000 in
set_option maxHeartbeats 4000000 in
theorem t_X12_takes {Γ : gS} {d : Nat} (hd : 2 ≤ d) {x0 : Nat} {x1 : Nat} {h : aH} {r : Int32} {h' : aH} (H : f_X12_takes x0 x1 h = some (r, h')) : Mx Γ gX12_takes d [.ref x0, .ref x1] h (some (.int r)) h' := by
  refine Mx.of (by decide +kernel) (Nat.le_of_ble_eq_true rfl) ?_
  unfold f_X12_takes at H
  show Ex Γ gX12_takes d 0 [(0, .ref x0), (1, .ref x1)] [] h (some (.int r)) h'
  obtain ⟨d, rfl⟩ : ∃ e, d = e + 1 := ⟨d - 1, by omega⟩
  refine x_aload_n dX12_takes_0 rfl 0 rfl ?_
  refine x_aload_n dX12_takes_1 rfl 1 rfl ?_
  obtain ⟨c9, H⟩ := ko_o H
  obtain ⟨v1, h2, hc3, H⟩ := bd_o H
  refine x_callVi (As := [.ref x1]) (q := (RX12, TX12, 103)) dX12_takes_2 mi_X12_isHere lk_X12_248 im_X12_isHere se_X12_isHere rfl c9 rfl rfl (Nat.le_of_ble_eq_true rfl) (t_X12_isHere (by omega) hc3) ?_
  refine x_if_ne (tgt := 10) dX12_takes_5 (by decide) (fun c4 => ?_) (fun c4 => ?_)
  · replace H := ite_m H c4
    refine x_aload_n dX12_takes_10 rfl 0 rfl ?_
    refine x_dup dX12_takes_11 rfl ?_
    obtain ⟨c5, H⟩ := ko_o H
    refine x_getI fr_X12_231 dX12_takes_12 c5 rfl ?_
    refine x_aload_n dX12_takes_15 rfl 1 rfl ?_
    obtain ⟨n7, c6, H⟩ := ka_o H
    refine x_alen dX12_takes_16 c6 (by decide) ?_
    refine x_iadd dX12_takes_17 ?_
    refine x_putI fl_X12_231 dX12_takes_18 c5 (fun e => by cases e) rfl ?_
    refine x_aload_n dX12_takes_21 rfl 0 rfl ?_
    refine x_aload_n dX12_takes_22 rfl 0 rfl ?_
    obtain ⟨v8, ev8, H⟩ := nm_o H
    refine x_getIe fr_X12_231 dX12_takes_23 c5 rfl ev8 ?_
    refine x_putI fl_X12_245 dX12_takes_26 c5 (fun e => by cases e) rfl ?_
    refine x_iconst (v := 1) dX12_takes_29 (by decide) ?_
    obtain ⟨rfl, rfl⟩ := so_1 H
    exact x_iret dX12_takes_30 rfl (by decide)
  · replace H := ite_p H c4
    refine x_iconst (v := 0) dX12_takes_8 (by decide) ?_
    obtain ⟨rfl, rfl⟩ := so_1 H
    exact x_iret dX12_takes_9 rfl (by decide)
def f_X12_asks_24 (h : aH) : Option (Unit × aH) :=
  some ((), h)
set_option maxRecDepth 100000 in
set_option maxHeartbeats 4000000 in
theorem t_X12_asks_24 {Γ : gS} {d : Nat} (hd : 3 ≤ d) {h : aH} {r : Unit} {h' : aH} (H : f_X12_asks_24 h = some (r, h')) : Ex Γ gX12_asks d 24 [] [] h none h' := by
  unfold f_X12_asks_24 at H
  obtain ⟨d, rfl⟩ : ∃ e, d = e + 1 := ⟨d - 1, by omega⟩
  obtain ⟨-, rfl⟩ := so_1 H
  exact x_vret dX12_asks_24 rfl
def f_X12_asks (x0 : Nat) (x1 : Nat) (h : aH) : Option (Unit × aH) :=
  ko h x0 11 <|
  if (hI h x0 5) = 0 then
    bd (f_X12_takes x0 x1 h) fun v3 h4 =>
    if v3 = 0 then
      ko h4 x0 11 <|
      bd (f_X12_fail x0 1 (hI h4 x0 2) h4) fun _ h9 =>
      f_X12_asks_24 h9
    else
      f_X12_asks_24 h4
  else
    f_X12_asks_24 h
set_option maxRecDepth 100000 in
set_option maxHeartbeats 4000000 in
theorem t_X12_asks {Γ : gS} {d : Nat} (hd : 3 ≤ d) {x0 : Nat} {x1 : Nat} {h : aH} {r : Unit} {h' : aH} (H : f_X12_asks x0 x1 h = some (r, h')) : Mx Γ gX12_asks d [.ref x0, .ref x1] h none h' := by
  refine Mx.of (by decide +kernel) (Nat.le_of_ble_eq_true rfl) ?_
  unfold f_X12_asks at H
  show Ex Γ gX12_asks d 0 [(0, .ref x0), (1, .ref x1)] [] h none h'
  obtain ⟨d, rfl⟩ : ∃ e, d = e + 1 := ⟨d - 1, by omega⟩
  refine x_aload_n dX12_asks_0 rfl 0 rfl ?_
  obtain ⟨c1, H⟩ := ko_o H
  refine x_getI fr_X12_225 dX12_asks_1 c1 rfl ?_
  refine x_if_ne (tgt := 24) dX12_asks_4 (by decide) (fun c2 => ?_) (fun c2 => ?_)
  · replace H := ite_m H c2
    refine Ex.sub [] rfl ?_
    exact t_X12_asks_24 hd H
  · replace H := ite_p H c2
    refine x_aload_n dX12_asks_7 rfl 0 rfl ?_
    refine x_aload_n dX12_asks_8 rfl 1 rfl ?_
    obtain ⟨v3, h4, hc5, H⟩ := bd_o H
    refine x_callVi (As := [.ref x1]) (q := (RX12, TX12, 103)) dX12_asks_9 mi_X12_takes lk_X12_252 im_X12_takes se_X12_takes rfl c1 rfl rfl (Nat.le_of_ble_eq_true rfl) (t_X12_takes (by omega) hc5) ?_
    refine x_if_ne (tgt := 24) dX12_asks_12 (by decide) (fun c6 => ?_) (fun c6 => ?_)
    · replace H := ite_m H c6
      refine Ex.sub [] rfl ?_
      exact t_X12_asks_24 hd H
    · replace H := ite_p H c6
      refine x_aload_n dX12_asks_15 rfl 0 rfl ?_
      refine x_iconst (v := 1) dX12_asks_16 (by decide) ?_
      refine x_aload_n dX12_asks_17 rfl 0 rfl ?_
      obtain ⟨c7, H⟩ := ko_o H
      refine x_getI fr_X12_231 dX12_asks_18 c7 rfl ?_
      obtain ⟨v8, h9, hc10, H⟩ := bd_o H
      refine x_callVv (As := [.int 1, .int (hI h4 x0 2)]) (q := (RX12, TX12, 103)) dX12_asks_21 mi_X12_fail lk_X12_255 im_X12_fail se_X12_fail rfl c7 rfl rfl (Nat.le_of_ble_eq_true rfl) (t_X12_fail (by omega) hc10) ?_
      refine Ex.sub [] rfl ?_
      exact t_X12_asks_24 hd H
def f_X12_takesSign_15 (h : aH) : Option (Int32 × aH) :=
  some (0, h)
set_option maxRecDepth 100000 in
set_option maxHeartbeats 4000000 in
theorem t_X12_takesSign_15 {Γ : gS} {d : Nat} (hd : 1 ≤ d) {h : aH} {r : Int32} {h' : aH} (H : f_X12_takesSign_15 h = some (r, h')) : Ex Γ gX12_takesSign d 15 [] [] h (some (.int r)) h' := by
  unfold f_X12_takesSign_15 at H
  obtain ⟨d, rfl⟩ : ∃ e, d = e + 1 := ⟨d - 1, by omega⟩
  refine x_iconst (v := 0) dX12_takesSign_15 (by decide) ?_
  obtain ⟨rfl, rfl⟩ := so_1 H
  exact x_iret dX12_takesSign_16 rfl (by decide)
def f_X12_takesSign (x0 : Nat) (x1 : Int32) (h : aH) : Option (Int32 × aH) :=
  ko h x0 11 <|
  if (hI h x0 5) = 0 then
    bd (f_X12_look x0 h) fun v3 h4 =>
    if v3 = x1 then
      ko h4 x0 11 <|
      some (1, sI h4 x0 2 ((hI h4 x0 2) + 1))
    else
      f_X12_takesSign_15 h4
  else
    f_X12_takesSign_15 h
set_option maxRecDepth 100000 in
set_option maxHeartbeats 4000000 in
theorem t_X12_takesSign {Γ : gS} {d : Nat} (hd : 1 ≤ d) {x0 : Nat} {x1 : Int32} {h : aH} {r : Int32} {h' : aH} (H : f_X12_takesSign x0 x1 h = some (r, h')) : Mx Γ gX12_takesSign d [.ref x0, .int x1] h (some (.int r)) h' := by
  refine Mx.of (by decide +kernel) (Nat.le_of_ble_eq_true rfl) ?_
  unfold f_X12_takesSign at H
  show Ex Γ gX12_takesSign d 0 [(0, .ref x0), (1, .int x1)] [] h (some (.int r)) h'
  obtain ⟨d, rfl⟩ : ∃ e, d = e + 1 := ⟨d - 1, by omega⟩
  refine x_aload_n dX12_takesSign_0 rfl 0 rfl ?_
  obtain ⟨c1, H⟩ := ko_o H
  refine x_getI fr_X12_225 dX12_takesSign_1 c1 rfl ?_
  refine x_if_ne (tgt := 15) dX12_takesSign_4 (by decide) (fun c2 => ?_) (fun c2 => ?_)
  · replace H := ite_m H c2
    refine Ex.sub [] rfl ?_
    exact t_X12_takesSign_15 hd H
  · replace H := ite_p H c2
    refine x_aload_n dX12_takesSign_7 rfl 0 rfl ?_
    obtain ⟨v3, h4, hc5, H⟩ := bd_o H
    refine x_callVi (As := []) (q := (RX12, TX12, 103)) dX12_takesSign_8 mi_X12_look lk_X12_237 im_X12_look se_X12_look rfl c1 rfl rfl (Nat.le_of_ble_eq_true rfl) (t_X12_look (by omega) hc5) ?_
    refine x_iload_n dX12_takesSign_11 rfl 1 rfl ?_
    refine x_icmp_eq (tgt := 17) dX12_takesSign_12 (by decide) (fun c6 => ?_) (fun c6 => ?_)
    · replace H := ite_p H c6
      refine x_aload_n dX12_takesSign_17 rfl 0 rfl ?_
      refine x_dup dX12_takesSign_18 rfl ?_
      obtain ⟨c7, H⟩ := ko_o H
      refine x_getI fr_X12_231 dX12_takesSign_19 c7 rfl ?_
      refine x_iconst (v := 1) dX12_takesSign_22 (by decide) ?_
      refine x_iadd dX12_takesSign_23 ?_
      refine x_putI fl_X12_231 dX12_takesSign_24 c7 (fun e => by cases e) rfl ?_
      refine x_iconst (v := 1) dX12_takesSign_27 (by decide) ?_
      obtain ⟨rfl, rfl⟩ := so_1 H
      exact x_iret dX12_takesSign_28 rfl (by decide)
    · replace H := ite_m H c6
      refine Ex.sub [] rfl ?_
      exact t_X12_takesSign_15 hd H
def f_X12_asksSign_24 (h : aH) : Option (Unit × aH) :=
  some ((), h)
set_option maxRecDepth 100000 in
set_option maxHeartbeats 4000000 in
theorem t_X12_asksSign_24 {Γ : gS} {d : Nat} (hd : 2 ≤ d) {h : aH} {r : Unit} {h' : aH} (H : f_X12_asksSign_24 h = some (r, h')) : Ex Γ gX12_asksSign d 24 [] [] h none h' := by
  unfold f_X12_asksSign_24 at H
  obtain ⟨d, rfl⟩ : ∃ e, d = e + 1 := ⟨d - 1, by omega⟩
  obtain ⟨-, rfl⟩ := so_1 H
  exact x_vret dX12_asksSign_24 rfl
def f_X12_asksSign (x0 : Nat) (x1 : Int32) (h : aH) : Option (Unit × aH) :=
  ko h x0 11 <|
  if (hI h x0 5) = 0 then
    bd (f_X12_takesSign x0 x1 h) fun v3 h4 =>
    if v3 = 0 then
      ko h4 x0 11 <|
      bd (f_X12_fail x0 1 (hI h4 x0 2) h4) fun _ h9 =>
      f_X12_asksSign_24 h9
    else
      f_X12_asksSign_24 h4
  else
    f_X12_asksSign_24 h
set_option maxRecDepth 100000 in
set_option maxHeartbeats 4000000 in
theorem t_X12_asksSign {Γ : gS} {d : Nat} (hd : 2 ≤ d) {x0 : Nat} {x1 : Int32} {h : aH} {r : Unit} {h' : aH} (H : f_X12_asksSign x0 x1 h = some (r, h')) : Mx Γ gX12_asksSign d [.ref x0, .int x1] h none h' := by
  refine Mx.of (by decide +kernel) (Nat.le_of_ble_eq_true rfl) ?_
  unfold f_X12_asksSign at H
  show Ex Γ gX12_asksSign d 0 [(0, .ref x0), (1, .int x1)] [] h none h'
  obtain ⟨d, rfl⟩ : ∃ e, d = e + 1 := ⟨d - 1, by omega⟩
  refine x_aload_n dX12_asksSign_0 rfl 0 rfl ?_
  obtain ⟨c1, H⟩ := ko_o H
  refine x_getI fr_X12_225 dX12_asksSign_1 c1 rfl ?_
  refine x_if_ne (tgt := 24) dX12_asksSign_4 (by decide) (fun c2 => ?_) (fun c2 => ?_)
  · replace H := ite_m H c2
    refine Ex.sub [] rfl ?_
    exact t_X12_asksSign_24 hd H
  · replace H := ite_p H c2
    refine x_aload_n dX12_asksSign_7 rfl 0 rfl ?_
    refine x_iload_n dX12_asksSign_8 rfl 1 rfl ?_
    obtain ⟨v3, h4, hc5, H⟩ := bd_o H
    refine x_callVi (As := [.int x1]) (q := (RX12, TX12, 103)) dX12_asksSign_9 mi_X12_takesSign lk_X12_259 im_X12_takesSign se_X12_takesSign rfl c1 rfl rfl (Nat.le_of_ble_eq_true rfl) (t_X12_takesSign (by omega) hc5) ?_
    refine x_if_ne (tgt := 24) dX12_asksSign_12 (by decide) (fun c6 => ?_) (fun c6 => ?_)
    · replace H := ite_m H c6
      refine Ex.sub [] rfl ?_
      exact t_X12_asksSign_24 hd H
    · replace H := ite_p H c6
      refine x_aload_n dX12_asksSign_15 rfl 0 rfl ?_
      refine x_iconst (v := 1) dX12_asksSign_16 (by decide) ?_
      refine x_aload_n dX12_asksSign_17 rfl 0 rfl ?_
      obtain ⟨c7, H⟩ := ko_o H
      refine x_getI fr_X12_231 dX12_asksSign_18 c7 rfl ?_
      obtain ⟨v8, h9, hc10, H⟩ := bd_o H
      refine x_callVv (As := [.int 1, .int (hI h4 x0 2)]) (q := (RX12, TX12, 103)) dX12_asksSign_21 mi_X12_fail lk_X12_255 im_X12_fail se_X12_fail rfl c7 rfl rfl (Nat.le_of_ble_eq_true rfl) (t_X12_fail (by omega) hc10) ?_
      refine Ex.sub [] rfl ?_
      exact t_X12_asksSign_24 hd H
def f_X12_number_30 (x0 : Nat) (h : aH) : Option (Int32 × aH) :=
  ko h x0 11 <|
  bd (f_X12_fail x0 1 (hI h x0 2) h) fun _ h3 =>
  some (0, h3)
set_option maxRecDepth 100000 in
set_option maxHeartbeats 4000000 in
theorem t_X12_number_30 {Γ : gS} {d : Nat} (hd : 1 ≤ d) {x0 : Nat} {h : aH} {r : Int32} {h' : aH} (H : f_X12_number_30 x0 h = some (r, h')) : Ex Γ gX12_number d 30 [(0, .ref x0)] [] h (some (.int r)) h' := by
  unfold f_X12_number_30 at H
  obtain ⟨d, rfl⟩ : ∃ e, d = e + 1 := ⟨d - 1, by omega⟩
  refine x_aload_n dX12_number_30 rfl 0 rfl ?_
  refine x_iconst (v := 1) dX12_number_31 (by decide) ?_
  refine x_aload_n dX12_number_32 rfl 0 rfl ?_
  obtain ⟨c1, H⟩ := ko_o H
  refine x_getI fr_X12_231 dX12_number_33 c1 rfl ?_
  obtain ⟨v2, h3, hc4, H⟩ := bd_o H
  refine x_callVv (As := [.int 1, .int (hI h x0 2)]) (q := (RX12, TX12, 103)) dX12_number_36 mi_X12_fail lk_X12_255 im_X12_fail se_X12_fail rfl c1 rfl rfl (Nat.le_of_ble_eq_true rfl) (t_X12_fail (by omega) hc4) ?_
  refine x_iconst (v := 0) dX12_number_39 (by decide) ?_
  obtain ⟨rfl, rfl⟩ := so_1 H
  exact x_iret dX12_number_40 rfl rfl
def f_X12_number_164 (x4 : Int32) (h : aH) : Option (Int32 × aH) :=
  some (x4, h)
set_option maxRecDepth 100000 in
set_option maxHeartbeats 4000000 in
theorem t_X12_number_164 {Γ : gS} {d : Nat} (hd : 1 ≤ d) {x4 : Int32} {h : aH} {r : Int32} {h' : aH} (H : f_X12_number_164 x4 h = some (r, h')) : Ex Γ gX12_number d 164 [(4, .int x4)] [] h (some (.int r)) h' := by
  unfold f_X12_number_164 at H
  obtain ⟨d, rfl⟩ : ∃ e, d = e + 1 := ⟨d - 1, by omega⟩
  refine x_iload dX12_number_164 0 rfl ?_
  obtain ⟨rfl, rfl⟩ := so_1 H
  exact x_iret dX12_number_166 rfl rfl
def f_X12_number_129 (x0 : Nat) (x1 : Int32) (x2 : Int32) (x3 : Int32) (x4 : Int32) (h : aH) : Option (Int32 × aH) :=
  ko h x0 11 <|
  bd (f_X12_isIn x4.toInt64 x1.toInt64 x2.toInt64 (sI (sI h x0 4 (hI h x0 2)) x0 10 x3)) fun v6 h7 =>
  if v6 = 0 then
    ko h7 x0 11 <|
    bd (f_X12_fail x0 2 (hI h7 x0 10) h7) fun _ h12 =>
    f_X12_number_164 x4 h12
  else
    f_X12_number_164 x4 h7
set_option maxRecDepth 100000 in
set_option maxHeartbeats 4000000 in
theorem t_X12_number_129 {Γ : gS} {d : Nat} (hd : 1 ≤ d) {x0 : Nat} {x1 : Int32} {x2 : Int32} {x3 : Int32} {x4 : Int32} {h : aH} {r : Int32} {h' : aH} (H : f_X12_number_129 x0 x1 x2 x3 x4 h = some (r, h')) : Ex Γ gX12_number d 129 [(0, .ref x0), (1, .int x1), (2, .int x2), (3, .int x3), (4, .int x4)] [] h (some (.int r)) h' := by
  unfold f_X12_number_129 at H
  obtain ⟨d, rfl⟩ : ∃ e, d = e + 1 := ⟨d - 1, by omega⟩
  refine x_aload_n dX12_number_129 rfl 0 rfl ?_
  refine x_aload_n dX12_number_130 rfl 0 rfl ?_
  obtain ⟨c5, H⟩ := ko_o H
  refine x_getI fr_X12_231 dX12_number_131 c5 rfl ?_
  refine x_putI fl_X12_245 dX12_number_134 c5 (fun e => by cases e) rfl ?_
  refine x_aload_n dX12_number_137 rfl 0 rfl ?_
  refine x_iload_n dX12_number_138 rfl 3 rfl ?_
  refine x_putI fl_X12_265 dX12_number_139 c5 (fun e => by cases e) rfl ?_
  refine x_iload dX12_number_142 4 rfl ?_
  refine x_i2l dX12_number_144 ?_
  refine x_iload_n dX12_number_145 rfl 1 rfl ?_
  refine x_i2l dX12_number_146 ?_
  refine x_iload_n dX12_number_147 rfl 2 rfl ?_
  refine x_i2l dX12_number_148 ?_
  obtain ⟨v6, h7, hc8, H⟩ := bd_o H
  refine x_callSi (As := [.long x4.toInt64, .long x1.toInt64, .long x2.toInt64]) dX12_number_149 mi_X12_isIn lk_X12_268 sm_X12_isIn rfl rfl (Nat.le_of_ble_eq_true rfl) (t_X12_isIn (by omega) hc8) ?_
  refine x_if_ne (tgt := 164) dX12_number_152 (by decide) (fun c9 => ?_) (fun c9 => ?_)
  · replace H := ite_m H c9
    refine Ex.sub [4] rfl ?_
    exact t_X12_number_164 hd H
  · replace H := ite_p H c9
    refine x_aload_n dX12_number_155 rfl 0 rfl ?_
    refine x_iconst (v := 2) dX12_number_156 (by decide) ?_
    refine x_aload_n dX12_number_157 rfl 0 rfl ?_
    obtain ⟨c10, H⟩ := ko_o H
    refine x_getI fr_X12_265 dX12_number_158 c10 rfl ?_
    obtain ⟨v11, h12, hc13, H⟩ := bd_o H
    refine x_callVv (As := [.int 2, .int (hI h7 x0 10)]) (q := (RX12, TX12, 103)) dX12_number_161 mi_X12_fail lk_X12_255 im_X12_fail se_X12_fail rfl c10 rfl rfl (Nat.le_of_ble_eq_true rfl) (t_X12_fail (by omega) hc13) ?_
    refine Ex.sub [4] rfl ?_
    exact t_X12_number_164 hd H
def b_X12_number_49 (k49 : Nat → Int32 → Int32 → Int32 → Int32 → aH → Option (Int32 × aH)) (x0 : Nat) (x1 : Int32) (x2 : Int32) (x3 : Int32) (x4 : Int32) (h : aH) : Option (Int32 × aH) :=
  ko h x0 11 <|
  if (hI h x0 3) ≤ (hI h x0 2) then
    f_X12_number_129 x0 x1 x2 x3 x4 h
  else
    kr (hR h x0 0) fun a16 =>
    ka h a16 .int fun n19 =>
    chk (inb (hI h x0 2) n19 = true) <|
    bd (f_X12_isDigit (hI h a16 (hI h x0 2 : Int32).toNatClampNeg) h) fun v21 h22 =>
    if v21 = 0 then
      f_X12_number_129 x0 x1 x2 x3 x4 h22
    else
      ko h22 x0 11 <|
      if ((hI h22 x0 2) - x3) = 4 then
        bd (f_X12_fail x0 1 (hI h22 x0 2) h22) fun _ h34 =>
        some (0, h34)
      else
        kr (hR h22 x0 0) fun a27 =>
        ka h22 a27 .int fun n30 =>
        chk (inb (hI h22 x0 2) n30 = true) <|
        nm (((10 * x4) + (hI h22 a27 (hI h22 x0 2 : Int32).toNatClampNeg)) - 48) fun (v32 : Int32) =>
        k49 x0 x1 x2 x3 v32 (sI h22 x0 2 ((hI h22 x0 2) + 1))
set_option maxRecDepth 100000 in
set_option maxHeartbeats 4000000 in
theorem tb_X12_number_49 {Γ : gS} {d : Nat} (hd : 1 ≤ d) {k49 : Nat → Int32 → Int32 → Int32 → Int32 → aH → Option (Int32 × aH)} (hk49 : ∀ {x0 : Nat} {x1 : Int32} {x2 : Int32} {x3 : Int32} {x4 : Int32} {h : aH} {r : Int32} {h' : aH}, k49 x0 x1 x2 x3 x4 h = some (r, h') → Ex Γ gX12_number d 49 [(0, .ref x0), (1, .int x1), (2, .int x2), (3, .int x3), (4, .int x4)] [] h (some (.int r)) h') {x0 : Nat} {x1 : Int32} {x2 : Int32} {x3 : Int32} {x4 : Int32} {h : aH} {r : Int32} {h' : aH} (H : b_X12_number_49 k49 x0 x1 x2 x3 x4 h = some (r, h')) : Ex Γ gX12_number d 49 [(0, .ref x0), (1, .int x1), (2, .int x2), (3, .int x3), (4, .int x4)] [] h (some (.int r)) h' := by
  unfold b_X12_number_49 at H
  obtain ⟨d, rfl⟩ : ∃ e, d = e + 1 := ⟨d - 1, by omega⟩
  refine x_aload_n dX12_number_49 rfl 0 rfl ?_
  obtain ⟨c14, H⟩ := ko_o H
  refine x_getI fr_X12_231 dX12_number_50 c14 rfl ?_
  refine x_aload_n dX12_number_53 rfl 0 rfl ?_
  refine x_getI fr_X12_234 dX12_number_54 c14 rfl ?_
  refine x_icmp_ge (tgt := 129) dX12_number_57 (by decide) (fun c15 => ?_) (fun c15 => ?_)
  · replace H := ite_p H c15
    exact t_X12_number_129 hd H
  · replace H := ite_m H c15
    refine x_aload_n dX12_number_60 rfl 0 rfl ?_
    obtain ⟨a16, c17, H⟩ := kr_o H
    refine x_getR fr_X12_7 dX12_number_61 c14 rfl c17 ?_
    refine x_aload_n dX12_number_64 rfl 0 rfl ?_
    refine x_getI fr_X12_231 dX12_number_65 c14 rfl ?_
    obtain ⟨n19, c18, H⟩ := ka_o H
    obtain ⟨c20, H⟩ := chk_o H
    refine x_iald dX12_number_68 c18 (inb_in.mp c20) ?_
    obtain ⟨v21, h22, hc23, H⟩ := bd_o H
    refine x_callSi (As := [.int (hI h a16 (hI h x0 2 : Int32).toNatClampNeg)]) dX12_number_69 mi_X12_isDigit lk_X12_262 sm_X12_isDigit rfl rfl (Nat.le_of_ble_eq_true rfl) (t_X12_isDigit (by omega) hc23) ?_
    refine x_if_eq (tgt := 129) dX12_number_72 (by decide) (fun c24 => ?_) (fun c24 => ?_)
    · replace H := ite_p H c24
      exact t_X12_number_129 hd H
    · replace H := ite_m H c24
      refine x_aload_n dX12_number_75 rfl 0 rfl ?_
      obtain ⟨c25, H⟩ := ko_o H
      refine x_getI fr_X12_231 dX12_number_76 c25 rfl ?_
      refine x_iload_n dX12_number_79 rfl 3 rfl ?_
      refine x_isub dX12_number_80 ?_
      refine x_iconst (v := 4) dX12_number_81 (by decide) ?_
      refine x_icmp_ne (tgt := 96) dX12_number_82 (by decide) (fun c26 => ?_) (fun c26 => ?_)
      · replace H := ite_m H c26
        refine x_bipush (v := 10) dX12_number_96 (by decide) ?_
        refine x_iload dX12_number_98 4 rfl ?_
        refine x_imul dX12_number_100 ?_
        refine x_aload_n dX12_number_101 rfl 0 rfl ?_
        obtain ⟨a27, c28, H⟩ := kr_o H
        refine x_getR fr_X12_7 dX12_number_102 c25 rfl c28 ?_
        refine x_aload_n dX12_number_105 rfl 0 rfl ?_
        refine x_getI fr_X12_231 dX12_number_106 c25 rfl ?_
        obtain ⟨n30, c29, H⟩ := ka_o H
        obtain ⟨c31, H⟩ := chk_o H
        refine x_iald dX12_number_109 c29 (inb_in.mp c31) ?_
        refine x_iadd dX12_number_110 ?_
        refine x_bipush (v := 48) dX12_number_111 (by decide) ?_
        refine x_isub dX12_number_113 ?_
        obtain ⟨v32, ev32, H⟩ := nm_o H
        refine x_istore (lv' := [(4, .int v32), (0, .ref x0), (1, .int x1), (2, .int x2), (3, .int x3)]) dX12_number_114 (by decide) ev32 rfl ?_
        refine x_aload_n dX12_number_116 rfl 1 rfl ?_
        refine x_dup dX12_number_117 rfl ?_
        refine x_getI fr_X12_231 dX12_number_118 c25 rfl ?_
        refine x_iconst (v := 1) dX12_number_121 (by decide) ?_
        refine x_iadd dX12_number_122 ?_
        refine x_putI fl_X12_231 dX12_number_123 c25 (fun e => by cases e) rfl ?_
        refine x_goto (tgt := 49) dX12_number_126 (by decide) ?_
        refine Ex.sub [1, 2, 3, 4, 0] rfl ?_
        exact hk49 H
      · replace H := ite_p H c26
        refine x_aload_n dX12_number_85 rfl 0 rfl ?_
        refine x_iconst (v := 1) dX12_number_86 (by decide) ?_
        refine x_aload_n dX12_number_87 rfl 0 rfl ?_
        refine x_getI fr_X12_231 dX12_number_88 c25 rfl ?_
        obtain ⟨v33, h34, hc35, H⟩ := bd_o H
        refine x_callVv (As := [.int 1, .int (hI h22 x0 2)]) (q := (RX12, TX12, 103)) dX12_number_91 mi_X12_fail lk_X12_255 im_X12_fail se_X12_fail rfl c25 rfl rfl (Nat.le_of_ble_eq_true rfl) (t_X12_fail (by omega) hc35) ?_
        refine x_iconst (v := 0) dX12_number_94 (by decide) ?_
        obtain ⟨rfl, rfl⟩ := so_1 H
        exact x_iret dX12_number_95 rfl rfl
def f_X12_number_49 : Nat → Nat → Int32 → Int32 → Int32 → Int32 → aH → Option (Int32 × aH)
  | 0 => fun _ _ _ _ _ _ => none
  | n + 1 => b_X12_number_49 (f_X12_number_49 n)
set_option maxRecDepth 100000 in
set_option maxHeartbeats 4000000 in
theorem t_X12_number_49 {Γ : gS} {d : Nat} (hd : 1 ≤ d) (n : Nat) : ∀ {x0 : Nat} {x1 : Int32} {x2 : Int32} {x3 : Int32} {x4 : Int32} {h : aH} {r : Int32} {h' : aH}, f_X12_number_49 n x0 x1 x2 x3 x4 h = some (r, h') → Ex Γ gX12_number d 49 [(0, .ref x0), (1, .int x1), (2, .int x2), (3, .int x3), (4, .int x4)] [] h (some (.int r)) h' := by
  induction n with
  | zero => intro x0 x1 x2 x3 x4 h r h' H; cases H
  | succ n ih => intro x0 x1 x2 x3 x4 h r h' H; exact tb_X12_number_49 hd ih H
def f_X12_number (x0 : Nat) (x1 : Int32) (x2 : Int32) (h : aH) : Option (Int32 × aH) :=
  ko h x0 11 <|
  if (hI h x0 5) = 0 then
    bd (f_X12_look x0 h) fun v38 h39 =>
    bd (f_X12_isDigit v38 h39) fun v41 h42 =>
    if v41 = 0 then
      f_X12_number_30 x0 h42
    else
      ko h42 x0 11 <|
      if (hI h42 x0 2) = (hI h42 x0 4) then
        f_X12_number_30 x0 h42
      else
        nm (hI h42 x0 2) fun (v47 : Int32) =>
        f_X12_number_49 FU x0 x1 x2 v47 0 h42
  else
    some (0, h)
set_option maxRecDepth 100000 in
set_option maxHeartbeats 4000000 in
theorem t_X12_number {Γ : gS} {d : Nat} (hd : 1 ≤ d) {x0 : Nat} {x1 : Int32} {x2 : Int32} {h : aH} {r : Int32} {h' : aH} (H : f_X12_number x0 x1 x2 h = some (r, h')) : Mx Γ gX12_number d [.ref x0, .int x1, .int x2] h (some (.int r)) h' := by
  refine Mx.of (by decide +kernel) (Nat.le_of_ble_eq_true rfl) ?_
  unfold f_X12_number at H
  show Ex Γ gX12_number d 0 [(0, .ref x0), (1, .int x1), (2, .int x2)] [] h (some (.int r)) h'
  obtain ⟨d, rfl⟩ : ∃ e, d = e + 1 := ⟨d - 1, by omega⟩
  refine x_aload_n dX12_number_0 rfl 0 rfl ?_
  obtain ⟨c36, H⟩ := ko_o H
  refine x_getI fr_X12_225 dX12_number_1 c36 rfl ?_
  refine x_if_eq (tgt := 9) dX12_number_4 (by decide) (fun c37 => ?_) (fun c37 => ?_)
  · replace H := ite_p H c37
    refine x_aload_n dX12_number_9 rfl 0 rfl ?_
    obtain ⟨v38, h39, hc40, H⟩ := bd_o H
    refine x_callVi (As := []) (q := (RX12, TX12, 103)) dX12_number_10 mi_X12_look lk_X12_237 im_X12_look se_X12_look rfl c36 rfl rfl (Nat.le_of_ble_eq_true rfl) (t_X12_look (by omega) hc40) ?_
    obtain ⟨v41, h42, hc43, H⟩ := bd_o H
    refine x_callSi (As := [.int v38]) dX12_number_13 mi_X12_isDigit lk_X12_262 sm_X12_isDigit rfl rfl (Nat.le_of_ble_eq_true rfl) (t_X12_isDigit (by omega) hc43) ?_
    refine x_if_eq (tgt := 30) dX12_number_16 (by decide) (fun c44 => ?_) (fun c44 => ?_)
    · replace H := ite_p H c44
      refine Ex.sub [0] rfl ?_
      exact t_X12_number_30 hd H
    · replace H := ite_m H c44
      refine x_aload_n dX12_number_19 rfl 0 rfl ?_
      obtain ⟨c45, H⟩ := ko_o H
      refine x_getI fr_X12_231 dX12_number_20 c45 rfl ?_
      refine x_aload_n dX12_number_23 rfl 0 rfl ?_
      refine x_getI fr_X12_245 dX12_number_24 c45 rfl ?_
      refine x_icmp_ne (tgt := 41) dX12_number_27 (by decide) (fun c46 => ?_) (fun c46 => ?_)
      · replace H := ite_m H c46
        refine x_aload_n dX12_number_41 rfl 0 rfl ?_
        refine x_getI fr_X12_231 dX12_number_42 c45 rfl ?_
        obtain ⟨v47, ev47, H⟩ := nm_o H
        refine x_istore_n (lv' := [(3, .int v47), (0, .ref x0), (1, .int x1), (2, .int x2)]) dX12_number_45 rfl (by decide) ev47 rfl ?_
        refine x_iconst (v := 0) dX12_number_46 (by decide) ?_
        refine x_istore (lv' := [(4, .int 0), (3, .int v47), (0, .ref x0), (1, .int x1), (2, .int x2)]) dX12_number_47 (by decide) rfl rfl ?_
        refine Ex.sub [2, 3, 4, 1, 0] rfl ?_
        exact t_X12_number_49 hd FU H
      · replace H := ite_p H c46
        refine Ex.sub [0] rfl ?_
        exact t_X12_number_30 hd H
  · replace H := ite_m H c37
    refine x_iconst (v := 0) dX12_number_7 (by decide) ?_
    obtain ⟨rfl, rfl⟩ := so_1 H
    exact x_iret dX12_number_8 rfl rfl
def f_X12_isOwnHere_320 (s0 : Int32) (h : aH) : Option (Int32 × aH) :=
  chk (narrow .boolean (.int s0) = .int s0) <|
  some (s0, h)
set_option maxRecDepth 100000 in
set_option maxHeartbeats 4000000 in
theorem t_X12_isOwnHere_320 {Γ : gS} {d : Nat} (hd : 2 ≤ d) {s0 : Int32} {h : aH} {r : Int32} {h' : aH} (H : f_X12_isOwnHere_320 s0 h = some (r, h')) : Ex Γ gX12_isOwnHere d 320 [] [.int s0] h (some (.int r)) h' := by
  unfold f_X12_isOwnHere_320 at H
  obtain ⟨d, rfl⟩ : ∃ e, d = e + 1 := ⟨d - 1, by omega⟩
  refine x_istore_n (lv' := [(1, .int s0)]) dX12_isOwnHere_320 rfl (by decide) rfl rfl ?_
  refine x_iload_n dX12_isOwnHere_321 rfl 0 rfl ?_
  obtain ⟨c1, H⟩ := chk_o H
  obtain ⟨rfl, rfl⟩ := so_1 H
  exact x_iret dX12_isOwnHere_322 rfl c1
def f_X12_isOwnHere_315 (h : aH) : Option (Int32 × aH) :=
  f_X12_isOwnHere_320 1 h
set_option maxRecDepth 100000 in
set_option maxHeartbeats 4000000 in
theorem t_X12_isOwnHere_315 {Γ : gS} {d : Nat} (hd : 2 ≤ d) {h : aH} {r : Int32} {h' : aH} (H : f_X12_isOwnHere_315 h = some (r, h')) : Ex Γ gX12_isOwnHere d 315 [] [] h (some (.int r)) h' := by
  unfold f_X12_isOwnHere_315 at H
  obtain ⟨d, rfl⟩ : ∃ e, d = e + 1 := ⟨d - 1, by omega⟩
  refine x_iconst (v := 1) dX12_isOwnHere_315 (by decide) ?_
  refine x_goto (tgt := 320) dX12_isOwnHere_316 (by decide) ?_
  exact t_X12_isOwnHere_320 hd H
def f_X12_isOwnHere_299 (x0 : Nat) (s0 : Int32) (h : aH) : Option (Int32 × aH) :=
  if s0 = 0 then
    ko h x0 11 <|
    kr (hR h x0 35) fun a4 =>
    bd (f_X12_isHere x0 a4 h) fun v6 h7 =>
    if v6 = 0 then
      f_X12_isOwnHere_320 0 h7
    else
      f_X12_isOwnHere_315 h7
  else
    f_X12_isOwnHere_315 h
set_option maxRecDepth 100000 in
set_option maxHeartbeats 4000000 in
theorem t_X12_isOwnHere_299 {Γ : gS} {d : Nat} (hd : 2 ≤ d) {x0 : Nat} {s0 : Int32} {h : aH} {r : Int32} {h' : aH} (H : f_X12_isOwnHere_299 x0 s0 h = some (r, h')) : Ex Γ gX12_isOwnHere d 299 [(0, .ref x0)] [.int s0] h (some (.int r)) h' := by
  unfold f_X12_isOwnHere_299 at H
  obtain ⟨d, rfl⟩ : ∃ e, d = e + 1 := ⟨d - 1, by omega⟩
  refine x_istore_n (lv' := [(1, .int s0), (0, .ref x0)]) dX12_isOwnHere_299 rfl (by decide) rfl rfl ?_
  refine x_iload_n dX12_isOwnHere_300 rfl 0 rfl ?_
  refine x_if_ne (tgt := 315) dX12_isOwnHere_301 (by decide) (fun c2 => ?_) (fun c2 => ?_)
  · replace H := ite_m H c2
    refine Ex.sub [] rfl ?_
    exact t_X12_isOwnHere_315 hd H
  · replace H := ite_p H c2
    refine x_aload_n dX12_isOwnHere_304 rfl 1 rfl ?_
    refine x_aload_n dX12_isOwnHere_305 rfl 1 rfl ?_
    obtain ⟨c3, H⟩ := ko_o H
    obtain ⟨a4, c5, H⟩ := kr_o H
    refine x_getR fr_X12_93 dX12_isOwnHere_306 c3 rfl c5 ?_
    obtain ⟨v6, h7, hc8, H⟩ := bd_o H
    refine x_callVi (As := [.ref a4]) (q := (RX12, TX12, 103)) dX12_isOwnHere_309 mi_X12_isHere lk_X12_248 im_X12_isHere se_X12_isHere rfl c3 rfl rfl (Nat.le_of_ble_eq_true rfl) (t_X12_isHere (by omega) hc8) ?_
    refine x_if_eq (tgt := 319) dX12_isOwnHere_312 (by decide) (fun c9 => ?_) (fun c9 => ?_)
    · replace H := ite_p H c9
      refine x_iconst (v := 0) dX12_isOwnHere_319 (by decide) ?_
      refine Ex.sub [] rfl ?_
      exact t_X12_isOwnHere_320 hd H
    · replace H := ite_m H c9
      refine Ex.sub [] rfl ?_
      exact t_X12_isOwnHere_315 hd H
def f_X12_isOwnHere_294 (x0 : Nat) (h : aH) : Option (Int32 × aH) :=
  f_X12_isOwnHere_299 x0 1 h
set_option maxRecDepth 100000 in
set_option maxHeartbeats 4000000 in
theorem t_X12_isOwnHere_294 {Γ : gS} {d : Nat} (hd : 2 ≤ d) {x0 : Nat} {h : aH} {r : Int32} {h' : aH} (H : f_X12_isOwnHere_294 x0 h = some (r, h')) : Ex Γ gX12_isOwnHere d 294 [(0, .ref x0)] [] h (some (.int r)) h' := by
  unfold f_X12_isOwnHere_294 at H
  obtain ⟨d, rfl⟩ : ∃ e, d = e + 1 := ⟨d - 1, by omega⟩
  refine x_iconst (v := 1) dX12_isOwnHere_294 (by decide) ?_
  refine x_goto (tgt := 299) dX12_isOwnHere_295 (by decide) ?_
  exact t_X12_isOwnHere_299 hd H
def f_X12_isOwnHere_223 (x0 : Nat) (s0 : Int32) (h : aH) : Option (Int32 × aH) :=
  if s0 = 0 then
    ko h x0 11 <|
    kr (hR h x0 29) fun a12 =>
    bd (f_X12_isHere x0 a12 h) fun v14 h15 =>
    if v14 = 0 then
      ko h15 x0 11 <|
      kr (hR h15 x0 30) fun a19 =>
      bd (f_X12_isHere x0 a19 h15) fun v21 h22 =>
      if v21 = 0 then
        ko h22 x0 11 <|
        kr (hR h22 x0 31) fun a26 =>
        bd (f_X12_isHere x0 a26 h22) fun v28 h29 =>
        if v28 = 0 then
          ko h29 x0 11 <|
          kr (hR h29 x0 32) fun a33 =>
          bd (f_X12_isHere x0 a33 h29) fun v35 h36 =>
          if v35 = 0 then
            ko h36 x0 11 <|
            kr (hR h36 x0 33) fun a40 =>
            bd (f_X12_isHere x0 a40 h36) fun v42 h43 =>
            if v42 = 0 then
              ko h43 x0 11 <|
              kr (hR h43 x0 34) fun a47 =>
              bd (f_X12_isHere x0 a47 h43) fun v49 h50 =>
              if v49 = 0 then
                f_X12_isOwnHere_299 x0 0 h50
              else
                f_X12_isOwnHere_294 x0 h50
            else
              f_X12_isOwnHere_294 x0 h43
          else
            f_X12_isOwnHere_294 x0 h36
        else
          f_X12_isOwnHere_294 x0 h29
      else
        f_X12_isOwnHere_294 x0 h22
    else
      f_X12_isOwnHere_294 x0 h15
  else
    f_X12_isOwnHere_294 x0 h
set_option maxRecDepth 100000 in
set_option maxHeartbeats 4000000 in
theorem t_X12_isOwnHere_223 {Γ : gS} {d : Nat} (hd : 2 ≤ d) {x0 : Nat} {s0 : Int32} {h : aH} {r : Int32} {h' : aH} (H : f_X12_isOwnHere_223 x0 s0 h = some (r, h')) : Ex Γ gX12_isOwnHere d 223 [(0, .ref x0)] [.int s0] h (some (.int r)) h' := by
  unfold f_X12_isOwnHere_223 at H
  obtain ⟨d, rfl⟩ : ∃ e, d = e + 1 := ⟨d - 1, by omega⟩
  refine x_istore_n (lv' := [(1, .int s0), (0, .ref x0)]) dX12_isOwnHere_223 rfl (by decide) rfl rfl ?_
  refine x_iload_n dX12_isOwnHere_224 rfl 0 rfl ?_
  refine x_if_ne (tgt := 294) dX12_isOwnHere_225 (by decide) (fun c10 => ?_) (fun c10 => ?_)
  · replace H := ite_m H c10
    refine Ex.sub [1] rfl ?_
    exact t_X12_isOwnHere_294 hd H
  · replace H := ite_p H c10
    refine x_aload_n dX12_isOwnHere_228 rfl 1 rfl ?_
    refine x_aload_n dX12_isOwnHere_229 rfl 1 rfl ?_
    obtain ⟨c11, H⟩ := ko_o H
    obtain ⟨a12, c13, H⟩ := kr_o H
    refine x_getR fr_X12_75 dX12_isOwnHere_230 c11 rfl c13 ?_
    obtain ⟨v14, h15, hc16, H⟩ := bd_o H
    refine x_callVi (As := [.ref a12]) (q := (RX12, TX12, 103)) dX12_isOwnHere_233 mi_X12_isHere lk_X12_248 im_X12_isHere se_X12_isHere rfl c11 rfl rfl (Nat.le_of_ble_eq_true rfl) (t_X12_isHere (by omega) hc16) ?_
    refine x_if_ne (tgt := 294) dX12_isOwnHere_236 (by decide) (fun c17 => ?_) (fun c17 => ?_)
    · replace H := ite_m H c17
      refine Ex.sub [1] rfl ?_
      exact t_X12_isOwnHere_294 hd H
    · replace H := ite_p H c17
      refine x_aload_n dX12_isOwnHere_239 rfl 1 rfl ?_
      refine x_aload_n dX12_isOwnHere_240 rfl 1 rfl ?_
      obtain ⟨c18, H⟩ := ko_o H
      obtain ⟨a19, c20, H⟩ := kr_o H
      refine x_getR fr_X12_78 dX12_isOwnHere_241 c18 rfl c20 ?_
      obtain ⟨v21, h22, hc23, H⟩ := bd_o H
      refine x_callVi (As := [.ref a19]) (q := (RX12, TX12, 103)) dX12_isOwnHere_244 mi_X12_isHere lk_X12_248 im_X12_isHere se_X12_isHere rfl c18 rfl rfl (Nat.le_of_ble_eq_true rfl) (t_X12_isHere (by omega) hc23) ?_
      refine x_if_ne (tgt := 294) dX12_isOwnHere_247 (by decide) (fun c24 => ?_) (fun c24 => ?_)
      · replace H := ite_m H c24
        refine Ex.sub [1] rfl ?_
        exact t_X12_isOwnHere_294 hd H
      · replace H := ite_p H c24
        refine x_aload_n dX12_isOwnHere_250 rfl 1 rfl ?_
        refine x_aload_n dX12_isOwnHere_251 rfl 1 rfl ?_
        obtain ⟨c25, H⟩ := ko_o H
        obtain ⟨a26, c27, H⟩ := kr_o H
        refine x_getR fr_X12_81 dX12_isOwnHere_252 c25 rfl c27 ?_
        obtain ⟨v28, h29, hc30, H⟩ := bd_o H
        refine x_callVi (As := [.ref a26]) (q := (RX12, TX12, 103)) dX12_isOwnHere_255 mi_X12_isHere lk_X12_248 im_X12_isHere se_X12_isHere rfl c25 rfl rfl (Nat.le_of_ble_eq_true rfl) (t_X12_isHere (by omega) hc30) ?_
        refine x_if_ne (tgt := 294) dX12_isOwnHere_258 (by decide) (fun c31 => ?_) (fun c31 => ?_)
        · replace H := ite_m H c31
          refine Ex.sub [1] rfl ?_
          exact t_X12_isOwnHere_294 hd H
        · replace H := ite_p H c31
          refine x_aload_n dX12_isOwnHere_261 rfl 1 rfl ?_
          refine x_aload_n dX12_isOwnHere_262 rfl 1 rfl ?_
          obtain ⟨c32, H⟩ := ko_o H
          obtain ⟨a33, c34, H⟩ := kr_o H
          refine x_getR fr_X12_84 dX12_isOwnHere_263 c32 rfl c34 ?_
          obtain ⟨v35, h36, hc37, H⟩ := bd_o H
          refine x_callVi (As := [.ref a33]) (q := (RX12, TX12, 103)) dX12_isOwnHere_266 mi_X12_isHere lk_X12_248 im_X12_isHere se_X12_isHere rfl c32 rfl rfl (Nat.le_of_ble_eq_true rfl) (t_X12_isHere (by omega) hc37) ?_
          refine x_if_ne (tgt := 294) dX12_isOwnHere_269 (by decide) (fun c38 => ?_) (fun c38 => ?_)
          · replace H := ite_m H c38
            refine Ex.sub [1] rfl ?_
            exact t_X12_isOwnHere_294 hd H
          · replace H := ite_p H c38
            refine x_aload_n dX12_isOwnHere_272 rfl 1 rfl ?_
            refine x_aload_n dX12_isOwnHere_273 rfl 1 rfl ?_
            obtain ⟨c39, H⟩ := ko_o H
            obtain ⟨a40, c41, H⟩ := kr_o H
            refine x_getR fr_X12_87 dX12_isOwnHere_274 c39 rfl c41 ?_
            obtain ⟨v42, h43, hc44, H⟩ := bd_o H
            refine x_callVi (As := [.ref a40]) (q := (RX12, TX12, 103)) dX12_isOwnHere_277 mi_X12_isHere lk_X12_248 im_X12_isHere se_X12_isHere rfl c39 rfl rfl (Nat.le_of_ble_eq_true rfl) (t_X12_isHere (by omega) hc44) ?_
            refine x_if_ne (tgt := 294) dX12_isOwnHere_280 (by decide) (fun c45 => ?_) (fun c45 => ?_)
            · replace H := ite_m H c45
              refine Ex.sub [1] rfl ?_
              exact t_X12_isOwnHere_294 hd H
            · replace H := ite_p H c45
              refine x_aload_n dX12_isOwnHere_283 rfl 1 rfl ?_
              refine x_aload_n dX12_isOwnHere_284 rfl 1 rfl ?_
              obtain ⟨c46, H⟩ := ko_o H
              obtain ⟨a47, c48, H⟩ := kr_o H
              refine x_getR fr_X12_90 dX12_isOwnHere_285 c46 rfl c48 ?_
              obtain ⟨v49, h50, hc51, H⟩ := bd_o H
              refine x_callVi (As := [.ref a47]) (q := (RX12, TX12, 103)) dX12_isOwnHere_288 mi_X12_isHere lk_X12_248 im_X12_isHere se_X12_isHere rfl c46 rfl rfl (Nat.le_of_ble_eq_true rfl) (t_X12_isHere (by omega) hc51) ?_
              refine x_if_eq (tgt := 298) dX12_isOwnHere_291 (by decide) (fun c52 => ?_) (fun c52 => ?_)
              · replace H := ite_p H c52
                refine x_iconst (v := 0) dX12_isOwnHere_298 (by decide) ?_
                refine Ex.sub [1] rfl ?_
                exact t_X12_isOwnHere_299 hd H
              · replace H := ite_m H c52
                refine Ex.sub [1] rfl ?_
                exact t_X12_isOwnHere_294 hd H
def f_X12_isOwnHere_218 (x0 : Nat) (h : aH) : Option (Int32 × aH) :=
  f_X12_isOwnHere_223 x0 1 h
set_option maxRecDepth 100000 in
set_option maxHeartbeats 4000000 in
theorem t_X12_isOwnHere_218 {Γ : gS} {d : Nat} (hd : 2 ≤ d) {x0 : Nat} {h : aH} {r : Int32} {h' : aH} (H : f_X12_isOwnHere_218 x0 h = some (r, h')) : Ex Γ gX12_isOwnHere d 218 [(0, .ref x0)] [] h (some (.int r)) h' := by
  unfold f_X12_isOwnHere_218 at H
  obtain ⟨d, rfl⟩ : ∃ e, d = e + 1 := ⟨d - 1, by omega⟩
  refine x_iconst (v := 1) dX12_isOwnHere_218 (by decide) ?_
  refine x_goto (tgt := 223) dX12_isOwnHere_219 (by decide) ?_
  exact t_X12_isOwnHere_223 hd H
def f_X12_isOwnHere_147 (x0 : Nat) (s0 : Int32) (h : aH) : Option (Int32 × aH) :=
  if s0 = 0 then
    ko h x0 11 <|
    kr (hR h x0 23) fun a55 =>
    bd (f_X12_isHere x0 a55 h) fun v57 h58 =>
    if v57 = 0 then
      ko h58 x0 11 <|
      kr (hR h58 x0 24) fun a62 =>
      bd (f_X12_isHere x0 a62 h58) fun v64 h65 =>
      if v64 = 0 then
        ko h65 x0 11 <|
        kr (hR h65 x0 25) fun a69 =>
        bd (f_X12_isHere x0 a69 h65) fun v71 h72 =>
        if v71 = 0 then
          ko h72 x0 11 <|
          kr (hR h72 x0 26) fun a76 =>
          bd (f_X12_isHere x0 a76 h72) fun v78 h79 =>
          if v78 = 0 then
            ko h79 x0 11 <|
            kr (hR h79 x0 27) fun a83 =>
            bd (f_X12_isHere x0 a83 h79) fun v85 h86 =>
            if v85 = 0 then
              ko h86 x0 11 <|
              kr (hR h86 x0 28) fun a90 =>
              bd (f_X12_isHere x0 a90 h86) fun v92 h93 =>
              if v92 = 0 then
                f_X12_isOwnHere_223 x0 0 h93
              else
                f_X12_isOwnHere_218 x0 h93
            else
              f_X12_isOwnHere_218 x0 h86
          else
            f_X12_isOwnHere_218 x0 h79
        else
          f_X12_isOwnHere_218 x0 h72
      else
        f_X12_isOwnHere_218 x0 h65
    else
      f_X12_isOwnHere_218 x0 h58
  else
    f_X12_isOwnHere_218 x0 h
set_option maxRecDepth 100000 in
set_option maxHeartbeats 4000000 in
theorem t_X12_isOwnHere_147 {Γ : gS} {d : Nat} (hd : 2 ≤ d) {x0 : Nat} {s0 : Int32} {h : aH} {r : Int32} {h' : aH} (H : f_X12_isOwnHere_147 x0 s0 h = some (r, h')) : Ex Γ gX12_isOwnHere d 147 [(0, .ref x0)] [.int s0] h (some (.int r)) h' := by
  unfold f_X12_isOwnHere_147 at H
  obtain ⟨d, rfl⟩ : ∃ e, d = e + 1 := ⟨d - 1, by omega⟩
  refine x_istore_n (lv' := [(1, .int s0), (0, .ref x0)]) dX12_isOwnHere_147 rfl (by decide) rfl rfl ?_
  refine x_iload_n dX12_isOwnHere_148 rfl 0 rfl ?_
  refine x_if_ne (tgt := 218) dX12_isOwnHere_149 (by decide) (fun c53 => ?_) (fun c53 => ?_)
  · replace H := ite_m H c53
    refine Ex.sub [1] rfl ?_
    exact t_X12_isOwnHere_218 hd H
  · replace H := ite_p H c53
    refine x_aload_n dX12_isOwnHere_152 rfl 1 rfl ?_
    refine x_aload_n dX12_isOwnHere_153 rfl 1 rfl ?_
    obtain ⟨c54, H⟩ := ko_o H
    obtain ⟨a55, c56, H⟩ := kr_o H
    refine x_getR fr_X12_57 dX12_isOwnHere_154 c54 rfl c56 ?_
    obtain ⟨v57, h58, hc59, H⟩ := bd_o H
    refine x_callVi (As := [.ref a55]) (q := (RX12, TX12, 103)) dX12_isOwnHere_157 mi_X12_isHere lk_X12_248 im_X12_isHere se_X12_isHere rfl c54 rfl rfl (Nat.le_of_ble_eq_true rfl) (t_X12_isHere (by omega) hc59) ?_
    refine x_if_ne (tgt := 218) dX12_isOwnHere_160 (by decide) (fun c60 => ?_) (fun c60 => ?_)
    · replace H := ite_m H c60
      refine Ex.sub [1] rfl ?_
      exact t_X12_isOwnHere_218 hd H
    · replace H := ite_p H c60
      refine x_aload_n dX12_isOwnHere_163 rfl 1 rfl ?_
      refine x_aload_n dX12_isOwnHere_164 rfl 1 rfl ?_
      obtain ⟨c61, H⟩ := ko_o H
      obtain ⟨a62, c63, H⟩ := kr_o H
      refine x_getR fr_X12_60 dX12_isOwnHere_165 c61 rfl c63 ?_
      obtain ⟨v64, h65, hc66, H⟩ := bd_o H
      refine x_callVi (As := [.ref a62]) (q := (RX12, TX12, 103)) dX12_isOwnHere_168 mi_X12_isHere lk_X12_248 im_X12_isHere se_X12_isHere rfl c61 rfl rfl (Nat.le_of_ble_eq_true rfl) (t_X12_isHere (by omega) hc66) ?_
      refine x_if_ne (tgt := 218) dX12_isOwnHere_171 (by decide) (fun c67 => ?_) (fun c67 => ?_)
      · replace H := ite_m H c67
        refine Ex.sub [1] rfl ?_
        exact t_X12_isOwnHere_218 hd H
      · replace H := ite_p H c67
        refine x_aload_n dX12_isOwnHere_174 rfl 1 rfl ?_
        refine x_aload_n dX12_isOwnHere_175 rfl 1 rfl ?_
        obtain ⟨c68, H⟩ := ko_o H
        obtain ⟨a69, c70, H⟩ := kr_o H
        refine x_getR fr_X12_63 dX12_isOwnHere_176 c68 rfl c70 ?_
        obtain ⟨v71, h72, hc73, H⟩ := bd_o H
        refine x_callVi (As := [.ref a69]) (q := (RX12, TX12, 103)) dX12_isOwnHere_179 mi_X12_isHere lk_X12_248 im_X12_isHere se_X12_isHere rfl c68 rfl rfl (Nat.le_of_ble_eq_true rfl) (t_X12_isHere (by omega) hc73) ?_
        refine x_if_ne (tgt := 218) dX12_isOwnHere_182 (by decide) (fun c74 => ?_) (fun c74 => ?_)
        · replace H := ite_m H c74
          refine Ex.sub [1] rfl ?_
          exact t_X12_isOwnHere_218 hd H
        · replace H := ite_p H c74
          refine x_aload_n dX12_isOwnHere_185 rfl 1 rfl ?_
          refine x_aload_n dX12_isOwnHere_186 rfl 1 rfl ?_
          obtain ⟨c75, H⟩ := ko_o H
          obtain ⟨a76, c77, H⟩ := kr_o H
          refine x_getR fr_X12_66 dX12_isOwnHere_187 c75 rfl c77 ?_
          obtain ⟨v78, h79, hc80, H⟩ := bd_o H
          refine x_callVi (As := [.ref a76]) (q := (RX12, TX12, 103)) dX12_isOwnHere_190 mi_X12_isHere lk_X12_248 im_X12_isHere se_X12_isHere rfl c75 rfl rfl (Nat.le_of_ble_eq_true rfl) (t_X12_isHere (by omega) hc80) ?_
          refine x_if_ne (tgt := 218) dX12_isOwnHere_193 (by decide) (fun c81 => ?_) (fun c81 => ?_)
          · replace H := ite_m H c81
            refine Ex.sub [1] rfl ?_
            exact t_X12_isOwnHere_218 hd H
          · replace H := ite_p H c81
            refine x_aload_n dX12_isOwnHere_196 rfl 1 rfl ?_
            refine x_aload_n dX12_isOwnHere_197 rfl 1 rfl ?_
            obtain ⟨c82, H⟩ := ko_o H
            obtain ⟨a83, c84, H⟩ := kr_o H
            refine x_getR fr_X12_69 dX12_isOwnHere_198 c82 rfl c84 ?_
            obtain ⟨v85, h86, hc87, H⟩ := bd_o H
            refine x_callVi (As := [.ref a83]) (q := (RX12, TX12, 103)) dX12_isOwnHere_201 mi_X12_isHere lk_X12_248 im_X12_isHere se_X12_isHere rfl c82 rfl rfl (Nat.le_of_ble_eq_true rfl) (t_X12_isHere (by omega) hc87) ?_
            refine x_if_ne (tgt := 218) dX12_isOwnHere_204 (by decide) (fun c88 => ?_) (fun c88 => ?_)
            · replace H := ite_m H c88
              refine Ex.sub [1] rfl ?_
              exact t_X12_isOwnHere_218 hd H
            · replace H := ite_p H c88
              refine x_aload_n dX12_isOwnHere_207 rfl 1 rfl ?_
              refine x_aload_n dX12_isOwnHere_208 rfl 1 rfl ?_
              obtain ⟨c89, H⟩ := ko_o H
              obtain ⟨a90, c91, H⟩ := kr_o H
              refine x_getR fr_X12_72 dX12_isOwnHere_209 c89 rfl c91 ?_
              obtain ⟨v92, h93, hc94, H⟩ := bd_o H
              refine x_callVi (As := [.ref a90]) (q := (RX12, TX12, 103)) dX12_isOwnHere_212 mi_X12_isHere lk_X12_248 im_X12_isHere se_X12_isHere rfl c89 rfl rfl (Nat.le_of_ble_eq_true rfl) (t_X12_isHere (by omega) hc94) ?_
              refine x_if_eq (tgt := 222) dX12_isOwnHere_215 (by decide) (fun c95 => ?_) (fun c95 => ?_)
              · replace H := ite_p H c95
                refine x_iconst (v := 0) dX12_isOwnHere_222 (by decide) ?_
                refine Ex.sub [1] rfl ?_
                exact t_X12_isOwnHere_223 hd H
              · replace H := ite_m H c95
                refine Ex.sub [1] rfl ?_
                exact t_X12_isOwnHere_218 hd H
def f_X12_isOwnHere_142 (x0 : Nat) (h : aH) : Option (Int32 × aH) :=
  f_X12_isOwnHere_147 x0 1 h
set_option maxRecDepth 100000 in
set_option maxHeartbeats 4000000 in
theorem t_X12_isOwnHere_142 {Γ : gS} {d : Nat} (hd : 2 ≤ d) {x0 : Nat} {h : aH} {r : Int32} {h' : aH} (H : f_X12_isOwnHere_142 x0 h = some (r, h')) : Ex Γ gX12_isOwnHere d 142 [(0, .ref x0)] [] h (some (.int r)) h' := by
  unfold f_X12_isOwnHere_142 at H
  obtain ⟨d, rfl⟩ : ∃ e, d = e + 1 := ⟨d - 1, by omega⟩
  refine x_iconst (v := 1) dX12_isOwnHere_142 (by decide) ?_
  refine x_goto (tgt := 147) dX12_isOwnHere_143 (by decide) ?_
  exact t_X12_isOwnHere_147 hd H
def f_X12_isOwnHere_71 (x0 : Nat) (s0 : Int32) (h : aH) : Option (Int32 × aH) :=
  if s0 = 0 then
    ko h x0 11 <|
    kr (hR h x0 17) fun a98 =>
    bd (f_X12_isHere x0 a98 h) fun v100 h101 =>
    if v100 = 0 then
      ko h101 x0 11 <|
      kr (hR h101 x0 18) fun a105 =>
      bd (f_X12_isHere x0 a105 h101) fun v107 h108 =>
      if v107 = 0 then
        ko h108 x0 11 <|
        kr (hR h108 x0 19) fun a112 =>
        bd (f_X12_isHere x0 a112 h108) fun v114 h115 =>
        if v114 = 0 then
          ko h115 x0 11 <|
          kr (hR h115 x0 20) fun a119 =>
          bd (f_X12_isHere x0 a119 h115) fun v121 h122 =>
          if v121 = 0 then
            ko h122 x0 11 <|
            kr (hR h122 x0 21) fun a126 =>
            bd (f_X12_isHere x0 a126 h122) fun v128 h129 =>
            if v128 = 0 then
              ko h129 x0 11 <|
              kr (hR h129 x0 22) fun a133 =>
              bd (f_X12_isHere x0 a133 h129) fun v135 h136 =>
              if v135 = 0 then
                f_X12_isOwnHere_147 x0 0 h136
              else
                f_X12_isOwnHere_142 x0 h136
            else
              f_X12_isOwnHere_142 x0 h129
          else
            f_X12_isOwnHere_142 x0 h122
        else
          f_X12_isOwnHere_142 x0 h115
      else
        f_X12_isOwnHere_142 x0 h108
    else
      f_X12_isOwnHere_142 x0 h101
  else
    f_X12_isOwnHere_142 x0 h
set_option maxRecDepth 100000 in
set_option maxHeartbeats 4000000 in
theorem t_X12_isOwnHere_71 {Γ : gS} {d : Nat} (hd : 2 ≤ d) {x0 : Nat} {s0 : Int32} {h : aH} {r : Int32} {h' : aH} (H : f_X12_isOwnHere_71 x0 s0 h = some (r, h')) : Ex Γ gX12_isOwnHere d 71 [(0, .ref x0)] [.int s0] h (some (.int r)) h' := by
  unfold f_X12_isOwnHere_71 at H
  obtain ⟨d, rfl⟩ : ∃ e, d = e + 1 := ⟨d - 1, by omega⟩
  refine x_istore_n (lv' := [(1, .int s0), (0, .ref x0)]) dX12_isOwnHere_71 rfl (by decide) rfl rfl ?_
  refine x_iload_n dX12_isOwnHere_72 rfl 0 rfl ?_
  refine x_if_ne (tgt := 142) dX12_isOwnHere_73 (by decide) (fun c96 => ?_) (fun c96 => ?_)
  · replace H := ite_m H c96
    refine Ex.sub [1] rfl ?_
    exact t_X12_isOwnHere_142 hd H
  · replace H := ite_p H c96
    refine x_aload_n dX12_isOwnHere_76 rfl 1 rfl ?_
    refine x_aload_n dX12_isOwnHere_77 rfl 1 rfl ?_
    obtain ⟨c97, H⟩ := ko_o H
    obtain ⟨a98, c99, H⟩ := kr_o H
    refine x_getR fr_X12_39 dX12_isOwnHere_78 c97 rfl c99 ?_
    obtain ⟨v100, h101, hc102, H⟩ := bd_o H
    refine x_callVi (As := [.ref a98]) (q := (RX12, TX12, 103)) dX12_isOwnHere_81 mi_X12_isHere lk_X12_248 im_X12_isHere se_X12_isHere rfl c97 rfl rfl (Nat.le_of_ble_eq_true rfl) (t_X12_isHere (by omega) hc102) ?_
    refine x_if_ne (tgt := 142) dX12_isOwnHere_84 (by decide) (fun c103 => ?_) (fun c103 => ?_)
    · replace H := ite_m H c103
      refine Ex.sub [1] rfl ?_
      exact t_X12_isOwnHere_142 hd H
    · replace H := ite_p H c103
      refine x_aload_n dX12_isOwnHere_87 rfl 1 rfl ?_
      refine x_aload_n dX12_isOwnHere_88 rfl 1 rfl ?_
      obtain ⟨c104, H⟩ := ko_o H
      obtain ⟨a105, c106, H⟩ := kr_o H
      refine x_getR fr_X12_42 dX12_isOwnHere_89 c104 rfl c106 ?_
      obtain ⟨v107, h108, hc109, H⟩ := bd_o H
      refine x_callVi (As := [.ref a105]) (q := (RX12, TX12, 103)) dX12_isOwnHere_92 mi_X12_isHere lk_X12_248 im_X12_isHere se_X12_isHere rfl c104 rfl rfl (Nat.le_of_ble_eq_true rfl) (t_X12_isHere (by omega) hc109) ?_
      refine x_if_ne (tgt := 142) dX12_isOwnHere_95 (by decide) (fun c110 => ?_) (fun c110 => ?_)
      · replace H := ite_m H c110
        refine Ex.sub [1] rfl ?_
        exact t_X12_isOwnHere_142 hd H
      · replace H := ite_p H c110
        refine x_aload_n dX12_isOwnHere_98 rfl 1 rfl ?_
        refine x_aload_n dX12_isOwnHere_99 rfl 1 rfl ?_
        obtain ⟨c111, H⟩ := ko_o H
        obtain ⟨a112, c113, H⟩ := kr_o H
        refine x_getR fr_X12_45 dX12_isOwnHere_100 c111 rfl c113 ?_
        obtain ⟨v114, h115, hc116, H⟩ := bd_o H
        refine x_callVi (As := [.ref a112]) (q := (RX12, TX12, 103)) dX12_isOwnHere_103 mi_X12_isHere lk_X12_248 im_X12_isHere se_X12_isHere rfl c111 rfl rfl (Nat.le_of_ble_eq_true rfl) (t_X12_isHere (by omega) hc116) ?_
        refine x_if_ne (tgt := 142) dX12_isOwnHere_106 (by decide) (fun c117 => ?_) (fun c117 => ?_)
        · replace H := ite_m H c117
          refine Ex.sub [1] rfl ?_
          exact t_X12_isOwnHere_142 hd H
        · replace H := ite_p H c117
          refine x_aload_n dX12_isOwnHere_109 rfl 1 rfl ?_
          refine x_aload_n dX12_isOwnHere_110 rfl 1 rfl ?_
          obtain ⟨c118, H⟩ := ko_o H
          obtain ⟨a119, c120, H⟩ := kr_o H
          refine x_getR fr_X12_48 dX12_isOwnHere_111 c118 rfl c120 ?_
          obtain ⟨v121, h122, hc123, H⟩ := bd_o H
          refine x_callVi (As := [.ref a119]) (q := (RX12, TX12, 103)) dX12_isOwnHere_114 mi_X12_isHere lk_X12_248 im_X12_isHere se_X12_isHere rfl c118 rfl rfl (Nat.le_of_ble_eq_true rfl) (t_X12_isHere (by omega) hc123) ?_
          refine x_if_ne (tgt := 142) dX12_isOwnHere_117 (by decide) (fun c124 => ?_) (fun c124 => ?_)
          · replace H := ite_m H c124
            refine Ex.sub [1] rfl ?_
            exact t_X12_isOwnHere_142 hd H
          · replace H := ite_p H c124
            refine x_aload_n dX12_isOwnHere_120 rfl 1 rfl ?_
            refine x_aload_n dX12_isOwnHere_121 rfl 1 rfl ?_
            obtain ⟨c125, H⟩ := ko_o H
            obtain ⟨a126, c127, H⟩ := kr_o H
            refine x_getR fr_X12_51 dX12_isOwnHere_122 c125 rfl c127 ?_
            obtain ⟨v128, h129, hc130, H⟩ := bd_o H
            refine x_callVi (As := [.ref a126]) (q := (RX12, TX12, 103)) dX12_isOwnHere_125 mi_X12_isHere lk_X12_248 im_X12_isHere se_X12_isHere rfl c125 rfl rfl (Nat.le_of_ble_eq_true rfl) (t_X12_isHere (by omega) hc130) ?_
            refine x_if_ne (tgt := 142) dX12_isOwnHere_128 (by decide) (fun c131 => ?_) (fun c131 => ?_)
            · replace H := ite_m H c131
              refine Ex.sub [1] rfl ?_
              exact t_X12_isOwnHere_142 hd H
            · replace H := ite_p H c131
              refine x_aload_n dX12_isOwnHere_131 rfl 1 rfl ?_
              refine x_aload_n dX12_isOwnHere_132 rfl 1 rfl ?_
              obtain ⟨c132, H⟩ := ko_o H
              obtain ⟨a133, c134, H⟩ := kr_o H
              refine x_getR fr_X12_54 dX12_isOwnHere_133 c132 rfl c134 ?_
              obtain ⟨v135, h136, hc137, H⟩ := bd_o H
              refine x_callVi (As := [.ref a133]) (q := (RX12, TX12, 103)) dX12_isOwnHere_136 mi_X12_isHere lk_X12_248 im_X12_isHere se_X12_isHere rfl c132 rfl rfl (Nat.le_of_ble_eq_true rfl) (t_X12_isHere (by omega) hc137) ?_
              refine x_if_eq (tgt := 146) dX12_isOwnHere_139 (by decide) (fun c138 => ?_) (fun c138 => ?_)
              · replace H := ite_p H c138
                refine x_iconst (v := 0) dX12_isOwnHere_146 (by decide) ?_
                refine Ex.sub [1] rfl ?_
                exact t_X12_isOwnHere_147 hd H
              · replace H := ite_m H c138
                refine Ex.sub [1] rfl ?_
                exact t_X12_isOwnHere_142 hd H
def f_X12_isOwnHere_66 (x0 : Nat) (h : aH) : Option (Int32 × aH) :=
  f_X12_isOwnHere_71 x0 1 h
set_option maxRecDepth 100000 in
set_option maxHeartbeats 4000000 in
theorem t_X12_isOwnHere_66 {Γ : gS} {d : Nat} (hd : 2 ≤ d) {x0 : Nat} {h : aH} {r : Int32} {h' : aH} (H : f_X12_isOwnHere_66 x0 h = some (r, h')) : Ex Γ gX12_isOwnHere d 66 [(0, .ref x0)] [] h (some (.int r)) h' := by
  unfold f_X12_isOwnHere_66 at H
  obtain ⟨d, rfl⟩ : ∃ e, d = e + 1 := ⟨d - 1, by omega⟩
  refine x_iconst (v := 1) dX12_isOwnHere_66 (by decide) ?_
  refine x_goto (tgt := 71) dX12_isOwnHere_67 (by decide) ?_
  exact t_X12_isOwnHere_71 hd H
def f_X12_isOwnHere (x0 : Nat) (h : aH) : Option (Int32 × aH) :=
  ko h x0 11 <|
  kr (hR h x0 11) fun a140 =>
  bd (f_X12_isHere x0 a140 h) fun v142 h143 =>
  if v142 = 0 then
    ko h143 x0 11 <|
    kr (hR h143 x0 12) fun a147 =>
    bd (f_X12_isHere x0 a147 h143) fun v149 h150 =>
    if v149 = 0 then
      ko h150 x0 11 <|
      kr (hR h150 x0 13) fun a154 =>
      bd (f_X12_isHere x0 a154 h150) fun v156 h157 =>
      if v156 = 0 then
        ko h157 x0 11 <|
        kr (hR h157 x0 14) fun a161 =>
        bd (f_X12_isHere x0 a161 h157) fun v163 h164 =>
        if v163 = 0 then
          ko h164 x0 11 <|
          kr (hR h164 x0 15) fun a168 =>
          bd (f_X12_isHere x0 a168 h164) fun v170 h171 =>
          if v170 = 0 then
            ko h171 x0 11 <|
            kr (hR h171 x0 16) fun a175 =>
            bd (f_X12_isHere x0 a175 h171) fun v177 h178 =>
            if v177 = 0 then
              f_X12_isOwnHere_71 x0 0 h178
            else
              f_X12_isOwnHere_66 x0 h178
          else
            f_X12_isOwnHere_66 x0 h171
        else
          f_X12_isOwnHere_66 x0 h164
      else
        f_X12_isOwnHere_66 x0 h157
    else
      f_X12_isOwnHere_66 x0 h150
  else
    f_X12_isOwnHere_66 x0 h143
set_option maxRecDepth 100000 in
set_option maxHeartbeats 4000000 in
theorem t_X12_isOwnHere {Γ : gS} {d : Nat} (hd : 2 ≤ d) {x0 : Nat} {h : aH} {r : Int32} {h' : aH} (H : f_X12_isOwnHere x0 h = some (r, h')) : Mx Γ gX12_isOwnHere d [.ref x0] h (some (.int r)) h' := by
  refine Mx.of (by decide +kernel) (Nat.le_of_ble_eq_true rfl) ?_
  unfold f_X12_isOwnHere at H
  show Ex Γ gX12_isOwnHere d 0 [(0, .ref x0)] [] h (some (.int r)) h'
  obtain ⟨d, rfl⟩ : ∃ e, d = e + 1 := ⟨d - 1, by omega⟩
  refine x_aload_n dX12_isOwnHere_0 rfl 0 rfl ?_
  refine x_aload_n dX12_isOwnHere_1 rfl 0 rfl ?_
  obtain ⟨c139, H⟩ := ko_o H
  obtain ⟨a140, c141, H⟩ := kr_o H
  refine x_getR fr_X12_20 dX12_isOwnHere_2 c139 rfl c141 ?_
  obtain ⟨v142, h143, hc144, H⟩ := bd_o H
  refine x_callVi (As := [.ref a140]) (q := (RX12, TX12, 103)) dX12_isOwnHere_5 mi_X12_isHere lk_X12_248 im_X12_isHere se_X12_isHere rfl c139 rfl rfl (Nat.le_of_ble_eq_true rfl) (t_X12_isHere (by omega) hc144) ?_
  refine x_if_ne (tgt := 66) dX12_isOwnHere_8 (by decide) (fun c145 => ?_) (fun c145 => ?_)
  · replace H := ite_m H c145
    exact t_X12_isOwnHere_66 hd H
  · replace H := ite_p H c145
    refine x_aload_n dX12_isOwnHere_11 rfl 0 rfl ?_
    refine x_aload_n dX12_isOwnHere_12 rfl 0 rfl ?_
    obtain ⟨c146, H⟩ := ko_o H
    obtain ⟨a147, c148, H⟩ := kr_o H
    refine x_getR fr_X12_24 dX12_isOwnHere_13 c146 rfl c148 ?_
    obtain ⟨v149, h150, hc151, H⟩ := bd_o H
    refine x_callVi (As := [.ref a147]) (q := (RX12, TX12, 103)) dX12_isOwnHere_16 mi_X12_isHere lk_X12_248 im_X12_isHere se_X12_isHere rfl c146 rfl rfl (Nat.le_of_ble_eq_true rfl) (t_X12_isHere (by omega) hc151) ?_
    refine x_if_ne (tgt := 66) dX12_isOwnHere_19 (by decide) (fun c152 => ?_) (fun c152 => ?_)
    · replace H := ite_m H c152
      exact t_X12_isOwnHere_66 hd H
    · replace H := ite_p H c152
      refine x_aload_n dX12_isOwnHere_22 rfl 0 rfl ?_
      refine x_aload_n dX12_isOwnHere_23 rfl 0 rfl ?_
      obtain ⟨c153, H⟩ := ko_o H
      obtain ⟨a154, c155, H⟩ := kr_o H
      refine x_getR fr_X12_27 dX12_isOwnHere_24 c153 rfl c155 ?_
      obtain ⟨v156, h157, hc158, H⟩ := bd_o H
      refine x_callVi (As := [.ref a154]) (q := (RX12, TX12, 103)) dX12_isOwnHere_27 mi_X12_isHere lk_X12_248 im_X12_isHere se_X12_isHere rfl c153 rfl rfl (Nat.le_of_ble_eq_true rfl) (t_X12_isHere (by omega) hc158) ?_
      refine x_if_ne (tgt := 66) dX12_isOwnHere_30 (by decide) (fun c159 => ?_) (fun c159 => ?_)
      · replace H := ite_m H c159
        exact t_X12_isOwnHere_66 hd H
      · replace H := ite_p H c159
        refine x_aload_n dX12_isOwnHere_33 rfl 0 rfl ?_
        refine x_aload_n dX12_isOwnHere_34 rfl 0 rfl ?_
        obtain ⟨c160, H⟩ := ko_o H
        obtain ⟨a161, c162, H⟩ := kr_o H
        refine x_getR fr_X12_30 dX12_isOwnHere_35 c160 rfl c162 ?_
        obtain ⟨v163, h164, hc165, H⟩ := bd_o H
        refine x_callVi (As := [.ref a161]) (q := (RX12, TX12, 103)) dX12_isOwnHere_38 mi_X12_isHere lk_X12_248 im_X12_isHere se_X12_isHere rfl c160 rfl rfl (Nat.le_of_ble_eq_true rfl) (t_X12_isHere (by omega) hc165) ?_
        refine x_if_ne (tgt := 66) dX12_isOwnHere_41 (by decide) (fun c166 => ?_) (fun c166 => ?_)
        · replace H := ite_m H c166
          exact t_X12_isOwnHere_66 hd H
        · replace H := ite_p H c166
          refine x_aload_n dX12_isOwnHere_44 rfl 0 rfl ?_
          refine x_aload_n dX12_isOwnHere_45 rfl 0 rfl ?_
          obtain ⟨c167, H⟩ := ko_o H
          obtain ⟨a168, c169, H⟩ := kr_o H
          refine x_getR fr_X12_33 dX12_isOwnHere_46 c167 rfl c169 ?_
          obtain ⟨v170, h171, hc172, H⟩ := bd_o H
          refine x_callVi (As := [.ref a168]) (q := (RX12, TX12, 103)) dX12_isOwnHere_49 mi_X12_isHere lk_X12_248 im_X12_isHere se_X12_isHere rfl c167 rfl rfl (Nat.le_of_ble_eq_true rfl) (t_X12_isHere (by omega) hc172) ?_
          refine x_if_ne (tgt := 66) dX12_isOwnHere_52 (by decide) (fun c173 => ?_) (fun c173 => ?_)
          · replace H := ite_m H c173
            exact t_X12_isOwnHere_66 hd H
          · replace H := ite_p H c173
            refine x_aload_n dX12_isOwnHere_55 rfl 0 rfl ?_
            refine x_aload_n dX12_isOwnHere_56 rfl 0 rfl ?_
            obtain ⟨c174, H⟩ := ko_o H
            obtain ⟨a175, c176, H⟩ := kr_o H
            refine x_getR fr_X12_36 dX12_isOwnHere_57 c174 rfl c176 ?_
            obtain ⟨v177, h178, hc179, H⟩ := bd_o H
            refine x_callVi (As := [.ref a175]) (q := (RX12, TX12, 103)) dX12_isOwnHere_60 mi_X12_isHere lk_X12_248 im_X12_isHere se_X12_isHere rfl c174 rfl rfl (Nat.le_of_ble_eq_true rfl) (t_X12_isHere (by omega) hc179) ?_
            refine x_if_eq (tgt := 70) dX12_isOwnHere_63 (by decide) (fun c180 => ?_) (fun c180 => ?_)
            · replace H := ite_p H c180
              refine x_iconst (v := 0) dX12_isOwnHere_70 (by decide) ?_
              exact t_X12_isOwnHere_71 hd H
            · replace H := ite_m H c180
              exact t_X12_isOwnHere_66 hd H
def f_X12_name_37 (x0 : Nat) (h : aH) : Option (Int64 × aH) :=
  ko h x0 11 <|
  bd (f_X12_fail x0 1 (hI h x0 2) h) fun _ h3 =>
  some (0, h3)
set_option maxRecDepth 100000 in
set_option maxHeartbeats 4000000 in
theorem t_X12_name_37 {Γ : gS} {d : Nat} (hd : 3 ≤ d) {x0 : Nat} {h : aH} {r : Int64} {h' : aH} (H : f_X12_name_37 x0 h = some (r, h')) : Ex Γ gX12_name d 37 [(0, .ref x0)] [] h (some (.long r)) h' := by
  unfold f_X12_name_37 at H
  obtain ⟨d, rfl⟩ : ∃ e, d = e + 1 := ⟨d - 1, by omega⟩
  refine x_aload_n dX12_name_37 rfl 0 rfl ?_
  refine x_iconst (v := 1) dX12_name_38 (by decide) ?_
  refine x_aload_n dX12_name_39 rfl 0 rfl ?_
  obtain ⟨c1, H⟩ := ko_o H
  refine x_getI fr_X12_231 dX12_name_40 c1 rfl ?_
  obtain ⟨v2, h3, hc4, H⟩ := bd_o H
  refine x_callVv (As := [.int 1, .int (hI h x0 2)]) (q := (RX12, TX12, 103)) dX12_name_43 mi_X12_fail lk_X12_255 im_X12_fail se_X12_fail rfl c1 rfl rfl (Nat.le_of_ble_eq_true rfl) (t_X12_fail (by omega) hc4) ?_
  refine x_lconst (v := 0) dX12_name_46 (by decide) ?_
  obtain ⟨rfl, rfl⟩ := so_1 H
  exact x_lret dX12_name_47 rfl
def f_X12_name_145 (x0 : Nat) (x1 : Int64) (h : aH) : Option (Int64 × aH) :=
  ko h x0 11 <|
  some (x1, sI h x0 4 (hI h x0 2))
set_option maxRecDepth 100000 in
set_option maxHeartbeats 4000000 in
theorem t_X12_name_145 {Γ : gS} {d : Nat} (hd : 3 ≤ d) {x0 : Nat} {x1 : Int64} {h : aH} {r : Int64} {h' : aH} (H : f_X12_name_145 x0 x1 h = some (r, h')) : Ex Γ gX12_name d 145 [(0, .ref x0), (1, .long x1)] [] h (some (.long r)) h' := by
  unfold f_X12_name_145 at H
  obtain ⟨d, rfl⟩ : ∃ e, d = e + 1 := ⟨d - 1, by omega⟩
  refine x_aload_n dX12_name_145 rfl 0 rfl ?_
  refine x_aload_n dX12_name_146 rfl 0 rfl ?_
  obtain ⟨c5, H⟩ := ko_o H
  refine x_getI fr_X12_231 dX12_name_147 c5 rfl ?_
  refine x_putI fl_X12_245 dX12_name_150 c5 (fun e => by cases e) rfl ?_
  refine x_lload_n dX12_name_153 rfl 1 rfl ?_
  obtain ⟨rfl, rfl⟩ := so_1 H
  exact x_lret dX12_name_154 rfl
def b_X12_name_58 (k58 : Nat → Int64 → aH → Option (Int64 × aH)) (x0 : Nat) (x1 : Int64) (h : aH) : Option (Int64 × aH) :=
  ko h x0 11 <|
  if (hI h x0 3) ≤ (hI h x0 2) then
    f_X12_name_145 x0 x1 h
  else
    kr (hR h x0 0) fun a8 =>
    ka h a8 .int fun n11 =>
    chk (inb (hI h x0 2) n11 = true) <|
    bd (f_X12_isLetter (hI h a8 (hI h x0 2 : Int32).toNatClampNeg) h) fun v13 h14 =>
    if v13 = 0 then
      f_X12_name_145 x0 x1 h14
    else
      ko h14 x0 11 <|
      if ((hI h14 x0 2) - (hI h14 x0 36)) = 6 then
        bd (f_X12_fail x0 1 (hI h14 x0 2) h14) fun _ h26 =>
        some (0, h26)
      else
        kr (hR h14 x0 0) fun a19 =>
        ka h14 a19 .int fun n22 =>
        chk (inb (hI h14 x0 2) n22 = true) <|
        nm ((((27 * x1) + ((hI h14 a19 (hI h14 x0 2 : Int32).toNatClampNeg : Int32).toInt64)) - 97) + 1) fun (v24 : Int64) =>
        k58 x0 v24 (sI h14 x0 2 ((hI h14 x0 2) + 1))
set_option maxRecDepth 100000 in
set_option maxHeartbeats 4000000 in
theorem tb_X12_name_58 {Γ : gS} {d : Nat} (hd : 3 ≤ d) {k58 : Nat → Int64 → aH → Option (Int64 × aH)} (hk58 : ∀ {x0 : Nat} {x1 : Int64} {h : aH} {r : Int64} {h' : aH}, k58 x0 x1 h = some (r, h') → Ex Γ gX12_name d 58 [(0, .ref x0), (1, .long x1)] [] h (some (.long r)) h') {x0 : Nat} {x1 : Int64} {h : aH} {r : Int64} {h' : aH} (H : b_X12_name_58 k58 x0 x1 h = some (r, h')) : Ex Γ gX12_name d 58 [(0, .ref x0), (1, .long x1)] [] h (some (.long r)) h' := by
  unfold b_X12_name_58 at H
  obtain ⟨d, rfl⟩ : ∃ e, d = e + 1 := ⟨d - 1, by omega⟩
  refine x_aload_n dX12_name_58 rfl 0 rfl ?_
  obtain ⟨c6, H⟩ := ko_o H
  refine x_getI fr_X12_231 dX12_name_59 c6 rfl ?_
  refine x_aload_n dX12_name_62 rfl 0 rfl ?_
  refine x_getI fr_X12_234 dX12_name_63 c6 rfl ?_
  refine x_icmp_ge (tgt := 145) dX12_name_66 (by decide) (fun c7 => ?_) (fun c7 => ?_)
  · replace H := ite_p H c7
    exact t_X12_name_145 hd H
  · replace H := ite_m H c7
    refine x_aload_n dX12_name_69 rfl 0 rfl ?_
    obtain ⟨a8, c9, H⟩ := kr_o H
    refine x_getR fr_X12_7 dX12_name_70 c6 rfl c9 ?_
    refine x_aload_n dX12_name_73 rfl 0 rfl ?_
    refine x_getI fr_X12_231 dX12_name_74 c6 rfl ?_
    obtain ⟨n11, c10, H⟩ := ka_o H
    obtain ⟨c12, H⟩ := chk_o H
    refine x_iald dX12_name_77 c10 (inb_in.mp c12) ?_
    obtain ⟨v13, h14, hc15, H⟩ := bd_o H
    refine x_callSi (As := [.int (hI h a8 (hI h x0 2 : Int32).toNatClampNeg)]) dX12_name_78 mi_X12_isLetter lk_X12_241 sm_X12_isLetter rfl rfl (Nat.le_of_ble_eq_true rfl) (t_X12_isLetter (by omega) hc15) ?_
    refine x_if_eq (tgt := 145) dX12_name_81 (by decide) (fun c16 => ?_) (fun c16 => ?_)
    · replace H := ite_p H c16
      exact t_X12_name_145 hd H
    · replace H := ite_m H c16
      refine x_aload_n dX12_name_84 rfl 0 rfl ?_
      obtain ⟨c17, H⟩ := ko_o H
      refine x_getI fr_X12_231 dX12_name_85 c17 rfl ?_
      refine x_aload_n dX12_name_88 rfl 0 rfl ?_
      refine x_getI fr_X12_276 dX12_name_89 c17 rfl ?_
      refine x_isub dX12_name_92 ?_
      refine x_bipush (v := 6) dX12_name_93 (by decide) ?_
      refine x_icmp_ne (tgt := 109) dX12_name_95 (by decide) (fun c18 => ?_) (fun c18 => ?_)
      · replace H := ite_m H c18
        refine x_ldc2 kc_X12_279 dX12_name_109 ?_
        refine x_lload_n dX12_name_112 rfl 1 rfl ?_
        refine x_lmul dX12_name_113 ?_
        refine x_aload_n dX12_name_114 rfl 0 rfl ?_
        obtain ⟨a19, c20, H⟩ := kr_o H
        refine x_getR fr_X12_7 dX12_name_115 c17 rfl c20 ?_
        refine x_aload_n dX12_name_118 rfl 0 rfl ?_
        refine x_getI fr_X12_231 dX12_name_119 c17 rfl ?_
        obtain ⟨n22, c21, H⟩ := ka_o H
        obtain ⟨c23, H⟩ := chk_o H
        refine x_iald dX12_name_122 c21 (inb_in.mp c23) ?_
        refine x_i2l dX12_name_123 ?_
        refine x_ladd dX12_name_124 ?_
        refine x_ldc2 kc_X12_281 dX12_name_125 ?_
        refine x_lsub dX12_name_128 ?_
        refine x_lconst (v := 1) dX12_name_129 (by decide) ?_
        refine x_ladd dX12_name_130 ?_
        obtain ⟨v24, ev24, H⟩ := nm_o H
        refine x_lstore_n (lv' := [(1, .long v24), (0, .ref x0)]) dX12_name_131 rfl (by decide) ev24 rfl ?_
        refine x_aload_n dX12_name_132 rfl 1 rfl ?_
        refine x_dup dX12_name_133 rfl ?_
        refine x_getI fr_X12_231 dX12_name_134 c17 rfl ?_
        refine x_iconst (v := 1) dX12_name_137 (by decide) ?_
        refine x_iadd dX12_name_138 ?_
        refine x_putI fl_X12_231 dX12_name_139 c17 (fun e => by cases e) rfl ?_
        refine x_goto (tgt := 58) dX12_name_142 (by decide) ?_
        refine Ex.sub [1, 0] rfl ?_
        exact hk58 H
      · replace H := ite_p H c18
        refine x_aload_n dX12_name_98 rfl 0 rfl ?_
        refine x_iconst (v := 1) dX12_name_99 (by decide) ?_
        refine x_aload_n dX12_name_100 rfl 0 rfl ?_
        refine x_getI fr_X12_231 dX12_name_101 c17 rfl ?_
        obtain ⟨v25, h26, hc27, H⟩ := bd_o H
        refine x_callVv (As := [.int 1, .int (hI h14 x0 2)]) (q := (RX12, TX12, 103)) dX12_name_104 mi_X12_fail lk_X12_255 im_X12_fail se_X12_fail rfl c17 rfl rfl (Nat.le_of_ble_eq_true rfl) (t_X12_fail (by omega) hc27) ?_
        refine x_lconst (v := 0) dX12_name_107 (by decide) ?_
        obtain ⟨rfl, rfl⟩ := so_1 H
        exact x_lret dX12_name_108 rfl
def f_X12_name_58 : Nat → Nat → Int64 → aH → Option (Int64 × aH)
  | 0 => fun _ _ _ => none
  | n + 1 => b_X12_name_58 (f_X12_name_58 n)
set_option maxRecDepth 100000 in
set_option maxHeartbeats 4000000 in
theorem t_X12_name_58 {Γ : gS} {d : Nat} (hd : 3 ≤ d) (n : Nat) : ∀ {x0 : Nat} {x1 : Int64} {h : aH} {r : Int64} {h' : aH}, f_X12_name_58 n x0 x1 h = some (r, h') → Ex Γ gX12_name d 58 [(0, .ref x0), (1, .long x1)] [] h (some (.long r)) h' := by
  induction n with
  | zero => intro x0 x1 h r h' H; cases H
  | succ n ih => intro x0 x1 h r h' H; exact tb_X12_name_58 hd ih H
def f_X12_name (x0 : Nat) (h : aH) : Option (Int64 × aH) :=
  ko h x0 11 <|
  if (hI h x0 5) = 0 then
    bd (f_X12_look x0 h) fun v30 h31 =>
    bd (f_X12_isLetter v30 h31) fun v33 h34 =>
    if v33 = 0 then
      f_X12_name_37 x0 h34
    else
      ko h34 x0 11 <|
      if (hI h34 x0 2) = (hI h34 x0 4) then
        f_X12_name_37 x0 h34
      else
        bd (f_X12_isOwnHere x0 h34) fun v39 h40 =>
        if v39 = 0 then
          ko h40 x0 11 <|
          f_X12_name_58 FU x0 0 (sI h40 x0 36 (hI h40 x0 2))
        else
          f_X12_name_37 x0 h40
  else
    some (0, h)
set_option maxRecDepth 100000 in
set_option maxHeartbeats 4000000 in
theorem t_X12_name {Γ : gS} {d : Nat} (hd : 3 ≤ d) {x0 : Nat} {h : aH} {r : Int64} {h' : aH} (H : f_X12_name x0 h = some (r, h')) : Mx Γ gX12_name d [.ref x0] h (some (.long r)) h' := by
  refine Mx.of (by decide +kernel) (Nat.le_of_ble_eq_true rfl) ?_
  unfold f_X12_name at H
  show Ex Γ gX12_name d 0 [(0, .ref x0)] [] h (some (.long r)) h'
  obtain ⟨d, rfl⟩ : ∃ e, d = e + 1 := ⟨d - 1, by omega⟩
  refine x_aload_n dX12_name_0 rfl 0 rfl ?_
  obtain ⟨c28, H⟩ := ko_o H
  refine x_getI fr_X12_225 dX12_name_1 c28 rfl ?_
  refine x_if_eq (tgt := 9) dX12_name_4 (by decide) (fun c29 => ?_) (fun c29 => ?_)
  · replace H := ite_p H c29
    refine x_aload_n dX12_name_9 rfl 0 rfl ?_
    obtain ⟨v30, h31, hc32, H⟩ := bd_o H
    refine x_callVi (As := []) (q := (RX12, TX12, 103)) dX12_name_10 mi_X12_look lk_X12_237 im_X12_look se_X12_look rfl c28 rfl rfl (Nat.le_of_ble_eq_true rfl) (t_X12_look (by omega) hc32) ?_
    obtain ⟨v33, h34, hc35, H⟩ := bd_o H
    refine x_callSi (As := [.int v30]) dX12_name_13 mi_X12_isLetter lk_X12_241 sm_X12_isLetter rfl rfl (Nat.le_of_ble_eq_true rfl) (t_X12_isLetter (by omega) hc35) ?_
    refine x_if_eq (tgt := 37) dX12_name_16 (by decide) (fun c36 => ?_) (fun c36 => ?_)
    · replace H := ite_p H c36
      exact t_X12_name_37 hd H
    · replace H := ite_m H c36
      refine x_aload_n dX12_name_19 rfl 0 rfl ?_
      obtain ⟨c37, H⟩ := ko_o H
      refine x_getI fr_X12_231 dX12_name_20 c37 rfl ?_
      refine x_aload_n dX12_name_23 rfl 0 rfl ?_
      refine x_getI fr_X12_245 dX12_name_24 c37 rfl ?_
      refine x_icmp_eq (tgt := 37) dX12_name_27 (by decide) (fun c38 => ?_) (fun c38 => ?_)
      · replace H := ite_p H c38
        exact t_X12_name_37 hd H
      · replace H := ite_m H c38
        refine x_aload_n dX12_name_30 rfl 0 rfl ?_
        obtain ⟨v39, h40, hc41, H⟩ := bd_o H
        refine x_callVi (As := []) (q := (RX12, TX12, 103)) dX12_name_31 mi_X12_isOwnHere lk_X12_272 im_X12_isOwnHere se_X12_isOwnHere rfl c37 rfl rfl (Nat.le_of_ble_eq_true rfl) (t_X12_isOwnHere (by omega) hc41) ?_
        refine x_if_eq (tgt := 48) dX12_name_34 (by decide) (fun c42 => ?_) (fun c42 => ?_)
        · replace H := ite_p H c42
          refine x_aload_n dX12_name_48 rfl 0 rfl ?_
          refine x_aload_n dX12_name_49 rfl 0 rfl ?_
          obtain ⟨c43, H⟩ := ko_o H
          refine x_getI fr_X12_231 dX12_name_50 c43 rfl ?_
          refine x_putI fl_X12_276 dX12_name_53 c43 (fun e => by cases e) rfl ?_
          refine x_lconst (v := 0) dX12_name_56 (by decide) ?_
          refine x_lstore_n (lv' := [(1, .long 0), (0, .ref x0)]) dX12_name_57 rfl (by decide) rfl rfl ?_
          refine Ex.sub [1, 0] rfl ?_
          exact t_X12_name_58 hd FU H
        · replace H := ite_m H c42
          exact t_X12_name_37 hd H
  · replace H := ite_m H c29
    refine x_lconst (v := 0) dX12_name_7 (by decide) ?_
    obtain ⟨rfl, rfl⟩ := so_1 H
    exact x_lret dX12_name_8 rfl
def f_X12_isAllowed_75 (s0 : Int32) (h : aH) : Option (Int32 × aH) :=
  chk (narrow .boolean (.int s0) = .int s0) <|
  some (s0, h)
set_option maxRecDepth 100000 in
set_option maxHeartbeats 4000000 in
theorem t_X12_isAllowed_75 {Γ : gS} {d : Nat} (hd : 1 ≤ d) {s0 : Int32} {h : aH} {r : Int32} {h' : aH} (H : f_X12_isAllowed_75 s0 h = some (r, h')) : Ex Γ gX12_isAllowed d 75 [] [.int s0] h (some (.int r)) h' := by
  unfold f_X12_isAllowed_75 at H
  obtain ⟨d, rfl⟩ : ∃ e, d = e + 1 := ⟨d - 1, by omega⟩
  obtain ⟨c1, H⟩ := chk_o H
  obtain ⟨rfl, rfl⟩ := so_1 H
  exact x_iret dX12_isAllowed_75 rfl c1
def f_X12_isAllowed_65 (x1 : Int32) (h : aH) : Option (Int32 × aH) :=
  if x1 ≤ 2 then
    f_X12_isAllowed_75 0 h
  else
    f_X12_isAllowed_75 1 h
set_option maxRecDepth 100000 in
set_option maxHeartbeats 4000000 in
theorem t_X12_isAllowed_65 {Γ : gS} {d : Nat} (hd : 1 ≤ d) {x1 : Int32} {h : aH} {r : Int32} {h' : aH} (H : f_X12_isAllowed_65 x1 h = some (r, h')) : Ex Γ gX12_isAllowed d 65 [(1, .int x1)] [] h (some (.int r)) h' := by
  unfold f_X12_isAllowed_65 at H
  obtain ⟨d, rfl⟩ : ∃ e, d = e + 1 := ⟨d - 1, by omega⟩
  refine x_iload_n dX12_isAllowed_65 rfl 0 rfl ?_
  refine x_iconst (v := 2) dX12_isAllowed_66 (by decide) ?_
  refine x_icmp_le (tgt := 74) dX12_isAllowed_67 (by decide) (fun c2 => ?_) (fun c2 => ?_)
  · replace H := ite_p H c2
    refine x_iconst (v := 0) dX12_isAllowed_74 (by decide) ?_
    refine Ex.sub [] rfl ?_
    exact t_X12_isAllowed_75 hd H
  · replace H := ite_m H c2
    refine x_iconst (v := 1) dX12_isAllowed_70 (by decide) ?_
    refine x_goto (tgt := 75) dX12_isAllowed_71 (by decide) ?_
    refine Ex.sub [] rfl ?_
    exact t_X12_isAllowed_75 hd H
def f_X12_isAllowed_42 (s0 : Int32) (h : aH) : Option (Int32 × aH) :=
  chk (narrow .boolean (.int s0) = .int s0) <|
  some (s0, h)
set_option maxRecDepth 100000 in
set_option maxHeartbeats 4000000 in
theorem t_X12_isAllowed_42 {Γ : gS} {d : Nat} (hd : 1 ≤ d) {s0 : Int32} {h : aH} {r : Int32} {h' : aH} (H : f_X12_isAllowed_42 s0 h = some (r, h')) : Ex Γ gX12_isAllowed d 42 [] [.int s0] h (some (.int r)) h' := by
  unfold f_X12_isAllowed_42 at H
  obtain ⟨d, rfl⟩ : ∃ e, d = e + 1 := ⟨d - 1, by omega⟩
  obtain ⟨c3, H⟩ := chk_o H
  obtain ⟨rfl, rfl⟩ := so_1 H
  exact x_iret dX12_isAllowed_42 rfl c3
def f_X12_isAllowed_52 (s0 : Int32) (h : aH) : Option (Int32 × aH) :=
  chk (narrow .boolean (.int s0) = .int s0) <|
  some (s0, h)
set_option maxRecDepth 100000 in
set_option maxHeartbeats 4000000 in
theorem t_X12_isAllowed_52 {Γ : gS} {d : Nat} (hd : 1 ≤ d) {s0 : Int32} {h : aH} {r : Int32} {h' : aH} (H : f_X12_isAllowed_52 s0 h = some (r, h')) : Ex Γ gX12_isAllowed d 52 [] [.int s0] h (some (.int r)) h' := by
  unfold f_X12_isAllowed_52 at H
  obtain ⟨d, rfl⟩ : ∃ e, d = e + 1 := ⟨d - 1, by omega⟩
  obtain ⟨c4, H⟩ := chk_o H
  obtain ⟨rfl, rfl⟩ := so_1 H
  exact x_iret dX12_isAllowed_52 rfl c4
def f_X12_isAllowed (x0 : Nat) (x1 : Int32) (h : aH) : Option (Int32 × aH) :=
  ko h x0 11 <|
  if (hI h x0 46) < 0 then
    f_X12_isAllowed_65 x1 h
  else
  if 2 < (hI h x0 46) then
    f_X12_isAllowed_65 x1 h
  else
  if (hI h x0 46) = 0 then
    if 3 ≤ x1 then
      f_X12_isAllowed_42 0 h
    else
      f_X12_isAllowed_42 1 h
  else
  if (hI h x0 46) = 1 then
    if x1 = 0 then
      f_X12_isAllowed_52 1 h
    else
      f_X12_isAllowed_52 0 h
  else
  if (hI h x0 46) = 2 then
    bd (f_X12_isIn x1.toInt64 3 6 h) fun v13 h14 =>
    chk (narrow .boolean (.int v13) = .int v13) <|
    some (v13, h14)
  else
  none
set_option maxRecDepth 100000 in
set_option maxHeartbeats 4000000 in
theorem t_X12_isAllowed {Γ : gS} {d : Nat} (hd : 1 ≤ d) {x0 : Nat} {x1 : Int32} {h : aH} {r : Int32} {h' : aH} (H : f_X12_isAllowed x0 x1 h = some (r, h')) : Mx Γ gX12_isAllowed d [.ref x0, .int x1] h (some (.int r)) h' := by
  refine Mx.of (by decide +kernel) (Nat.le_of_ble_eq_true rfl) ?_
  unfold f_X12_isAllowed at H
  show Ex Γ gX12_isAllowed d 0 [(0, .ref x0), (1, .int x1)] [] h (some (.int r)) h'
  obtain ⟨d, rfl⟩ : ∃ e, d = e + 1 := ⟨d - 1, by omega⟩
  refine x_aload_n dX12_isAllowed_0 rfl 0 rfl ?_
  obtain ⟨c5, H⟩ := ko_o H
  refine x_getI fr_X12_283 dX12_isAllowed_1 c5 rfl ?_
  by_cases c6 : (hI h x0 46) < 0
  · replace H := ite_p H c6
    refine x_tableOut (tgt := 65) dX12_isAllowed_4 (Or.inl (sw_lo c6 (by decide))) (by decide) ?_
    refine Ex.sub [1] rfl ?_
    exact t_X12_isAllowed_65 hd H
  replace H := ite_m H c6
  by_cases c7 : 2 < (hI h x0 46)
  · replace H := ite_p H c7
    refine x_tableOut (tgt := 65) dX12_isAllowed_4 (Or.inr (sw_hi c7 (by decide))) (by decide) ?_
    refine Ex.sub [1] rfl ?_
    exact t_X12_isAllowed_65 hd H
  replace H := ite_m H c7
  by_cases c8 : (hI h x0 46) = 0
  · replace H := ite_p H c8
    refine x_tableIn (tgt := 32) dX12_isAllowed_4 (by rw [c8]; decide) (by rw [c8]; decide) (by rw [c8]; rfl) (by decide) ?_
    refine x_iload_n dX12_isAllowed_32 rfl 1 rfl ?_
    refine x_iconst (v := 3) dX12_isAllowed_33 (by decide) ?_
    refine x_icmp_ge (tgt := 41) dX12_isAllowed_34 (by decide) (fun c9 => ?_) (fun c9 => ?_)
    · replace H := ite_p H c9
      refine x_iconst (v := 0) dX12_isAllowed_41 (by decide) ?_
      refine Ex.sub [] rfl ?_
      exact t_X12_isAllowed_42 hd H
    · replace H := ite_m H c9
      refine x_iconst (v := 1) dX12_isAllowed_37 (by decide) ?_
      refine x_goto (tgt := 42) dX12_isAllowed_38 (by decide) ?_
      refine Ex.sub [] rfl ?_
      exact t_X12_isAllowed_42 hd H
  replace H := ite_m H c8
  by_cases c10 : (hI h x0 46) = 1
  · replace H := ite_p H c10
    refine x_tableIn (tgt := 43) dX12_isAllowed_4 (by rw [c10]; decide) (by rw [c10]; decide) (by rw [c10]; rfl) (by decide) ?_
    refine x_iload_n dX12_isAllowed_43 rfl 1 rfl ?_
    refine x_if_ne (tgt := 51) dX12_isAllowed_44 (by decide) (fun c11 => ?_) (fun c11 => ?_)
    · replace H := ite_m H c11
      refine x_iconst (v := 0) dX12_isAllowed_51 (by decide) ?_
      refine Ex.sub [] rfl ?_
      exact t_X12_isAllowed_52 hd H
    · replace H := ite_p H c11
      refine x_iconst (v := 1) dX12_isAllowed_47 (by decide) ?_
      refine x_goto (tgt := 52) dX12_isAllowed_48 (by decide) ?_
      refine Ex.sub [] rfl ?_
      exact t_X12_isAllowed_52 hd H
  replace H := ite_m H c10
  by_cases c12 : (hI h x0 46) = 2
  · replace H := ite_p H c12
    refine x_tableIn (tgt := 53) dX12_isAllowed_4 (by rw [c12]; decide) (by rw [c12]; decide) (by rw [c12]; rfl) (by decide) ?_
    refine x_iload_n dX12_isAllowed_53 rfl 1 rfl ?_
    refine x_i2l dX12_isAllowed_54 ?_
    refine x_ldc2 kc_X12_286 dX12_isAllowed_55 ?_
    refine x_ldc2 kc_X12_288 dX12_isAllowed_58 ?_
    obtain ⟨v13, h14, hc15, H⟩ := bd_o H
    refine x_callSi (As := [.long x1.toInt64, .long 3, .long 6]) dX12_isAllowed_61 mi_X12_isIn lk_X12_268 sm_X12_isIn rfl rfl (Nat.le_of_ble_eq_true rfl) (t_X12_isIn (by omega) hc15) ?_
    obtain ⟨c16, H⟩ := chk_o H
    obtain ⟨rfl, rfl⟩ := so_1 H
    exact x_iret dX12_isAllowed_64 rfl c16
  replace H := ite_m H c12
  cases H
def f_X12_machineTold (x0 : Nat) (h : aH) : Option (Unit × aH) :=
  ko h x0 11 <|
  kr (hR h x0 11) fun a2 =>
  bd (f_X12_asks x0 a2 h) fun _ h5 =>
  ko h5 x0 11 <|
  kr (hR h5 x0 37) fun a8 =>
  bd (f_X12_number x0 64 1024 h5) fun v10 h11 =>
  ka h11 a8 .int fun n14 =>
  chk (inb 0 n14 = true) <|
  ko h11 x0 11 <|
  kr (hR h11 x0 12) fun a17 =>
  bd (f_X12_asks x0 a17 (sI h11 a8 (0 : Int32).toNatClampNeg v10)) fun _ h20 =>
  ko h20 x0 11 <|
  kr (hR h20 x0 37) fun a23 =>
  bd (f_X12_number x0 4 8 h20) fun v25 h26 =>
  ka h26 a23 .int fun n29 =>
  chk (inb 1 n29 = true) <|
  ko h26 x0 11 <|
  bd (f_X12_asksSign x0 59 (sI h26 a23 (1 : Int32).toNatClampNeg v25)) fun _ h32 =>
  some ((), h32)
set_option maxRecDepth 100000 in
set_option maxHeartbeats 4000000 in
theorem t_X12_machineTold {Γ : gS} {d : Nat} (hd : 4 ≤ d) {x0 : Nat} {h : aH} {r : Unit} {h' : aH} (H : f_X12_machineTold x0 h = some (r, h')) : Mx Γ gX12_machineTold d [.ref x0] h none h' := by
  refine Mx.of (by decide +kernel) (Nat.le_of_ble_eq_true rfl) ?_
  unfold f_X12_machineTold at H
  show Ex Γ gX12_machineTold d 0 [(0, .ref x0)] [] h none h'
  obtain ⟨d, rfl⟩ : ∃ e, d = e + 1 := ⟨d - 1, by omega⟩
  refine x_aload_n dX12_machineTold_0 rfl 0 rfl ?_
  refine x_aload_n dX12_machineTold_1 rfl 0 rfl ?_
  obtain ⟨c1, H⟩ := ko_o H
  obtain ⟨a2, c3, H⟩ := kr_o H
  refine x_getR fr_X12_20 dX12_machineTold_2 c1 rfl c3 ?_
  obtain ⟨v4, h5, hc6, H⟩ := bd_o H
  refine x_callVv (As := [.ref a2]) (q := (RX12, TX12, 103)) dX12_machineTold_5 mi_X12_asks lk_X12_290 im_X12_asks se_X12_asks rfl c1 rfl rfl (Nat.le_of_ble_eq_true rfl) (t_X12_asks (by omega) hc6) ?_
  refine x_aload_n dX12_machineTold_8 rfl 0 rfl ?_
  obtain ⟨c7, H⟩ := ko_o H
  obtain ⟨a8, c9, H⟩ := kr_o H
  refine x_getR fr_X12_96 dX12_machineTold_9 c7 rfl c9 ?_
  refine x_iconst (v := 0) dX12_machineTold_12 (by decide) ?_
  refine x_aload_n dX12_machineTold_13 rfl 0 rfl ?_
  refine x_bipush (v := 64) dX12_machineTold_14 (by decide) ?_
  refine x_sipush (v := 1024) dX12_machineTold_16 (by decide) ?_
  obtain ⟨v10, h11, hc12, H⟩ := bd_o H
  refine x_callVi (As := [.int 64, .int 1024]) (q := (RX12, TX12, 103)) dX12_machineTold_19 mi_X12_number lk_X12_294 im_X12_number se_X12_number rfl c7 rfl rfl (Nat.le_of_ble_eq_true rfl) (t_X12_number (by omega) hc12) ?_
  obtain ⟨n14, c13, H⟩ := ka_o H
  obtain ⟨c15, H⟩ := chk_o H
  refine x_iast dX12_machineTold_22 c13 (inb_in.mp c15) ?_
  refine x_aload_n dX12_machineTold_23 rfl 0 rfl ?_
  refine x_aload_n dX12_machineTold_24 rfl 0 rfl ?_
  obtain ⟨c16, H⟩ := ko_o H
  obtain ⟨a17, c18, H⟩ := kr_o H
  refine x_getR fr_X12_24 dX12_machineTold_25 c16 rfl c18 ?_
  obtain ⟨v19, h20, hc21, H⟩ := bd_o H
  refine x_callVv (As := [.ref a17]) (q := (RX12, TX12, 103)) dX12_machineTold_28 mi_X12_asks lk_X12_290 im_X12_asks se_X12_asks rfl c16 rfl rfl (Nat.le_of_ble_eq_true rfl) (t_X12_asks (by omega) hc21) ?_
  refine x_aload_n dX12_machineTold_31 rfl 0 rfl ?_
  obtain ⟨c22, H⟩ := ko_o H
  obtain ⟨a23, c24, H⟩ := kr_o H
  refine x_getR fr_X12_96 dX12_machineTold_32 c22 rfl c24 ?_
  refine x_iconst (v := 1) dX12_machineTold_35 (by decide) ?_
  refine x_aload_n dX12_machineTold_36 rfl 0 rfl ?_
  refine x_iconst (v := 4) dX12_machineTold_37 (by decide) ?_
  refine x_bipush (v := 8) dX12_machineTold_38 (by decide) ?_
  obtain ⟨v25, h26, hc27, H⟩ := bd_o H
  refine x_callVi (As := [.int 4, .int 8]) (q := (RX12, TX12, 103)) dX12_machineTold_40 mi_X12_number lk_X12_294 im_X12_number se_X12_number rfl c22 rfl rfl (Nat.le_of_ble_eq_true rfl) (t_X12_number (by omega) hc27) ?_
  obtain ⟨n29, c28, H⟩ := ka_o H
  obtain ⟨c30, H⟩ := chk_o H
  refine x_iast dX12_machineTold_43 c28 (inb_in.mp c30) ?_
  refine x_aload_n dX12_machineTold_44 rfl 0 rfl ?_
  refine x_bipush (v := 59) dX12_machineTold_45 (by decide) ?_
  obtain ⟨c34, H⟩ := ko_o H
  obtain ⟨v31, h32, hc33, H⟩ := bd_o H
  refine x_callVv (As := [.int 59]) (q := (RX12, TX12, 103)) dX12_machineTold_47 mi_X12_asksSign lk_X12_298 im_X12_asksSign se_X12_asksSign rfl c34 rfl rfl (Nat.le_of_ble_eq_true rfl) (t_X12_asksSign (by omega) hc33) ?_
  obtain ⟨-, rfl⟩ := so_1 H
  exact x_vret dX12_machineTold_50 rfl
def f_X12_shelfTold_70 (k31 : Nat → Int64 → Int32 → aH → Option (Unit × aH)) (x0 : Nat) (x2 : Int64) (x4 : Int32) (h : aH) : Option (Unit × aH) :=
  nm (x4 + 1) fun (v1 : Int32) =>
  k31 x0 x2 v1 h
set_option maxRecDepth 100000 in
set_option maxHeartbeats 4000000 in
theorem t_X12_shelfTold_70 {Γ : gS} {d : Nat} (hd : 4 ≤ d) {k31 : Nat → Int64 → Int32 → aH → Option (Unit × aH)} (hk31 : ∀ {x0 : Nat} {x2 : Int64} {x4 : Int32} {h : aH} {r : Unit} {h' : aH}, k31 x0 x2 x4 h = some (r, h') → Ex Γ gX12_shelfTold d 31 [(0, .ref x0), (2, .long x2), (4, .int x4)] [] h none h') {x0 : Nat} {x2 : Int64} {x4 : Int32} {h : aH} {r : Unit} {h' : aH} (H : f_X12_shelfTold_70 k31 x0 x2 x4 h = some (r, h')) : Ex Γ gX12_shelfTold d 70 [(0, .ref x0), (2, .long x2), (4, .int x4)] [] h none h' := by
  unfold f_X12_shelfTold_70 at H
  obtain ⟨d, rfl⟩ : ∃ e, d = e + 1 := ⟨d - 1, by omega⟩
  obtain ⟨v1, ev1, H⟩ := nm_o H
  refine x_iinc (v := v1) (lv' := [(4, .int v1), (0, .ref x0), (2, .long x2)]) dX12_shelfTold_70 2 rfl (by decide) ev1 rfl ?_
  refine x_goto (tgt := 31) dX12_shelfTold_73 (by decide) ?_
  refine Ex.sub [1, 2, 0] rfl ?_
  exact hk31 H
def b_X12_shelfTold_31 (k31 : Nat → Int64 → Int32 → aH → Option (Unit × aH)) (x0 : Nat) (x2 : Int64) (x4 : Int32) (h : aH) : Option (Unit × aH) :=
  ko h x0 11 <|
  kr (hR h x0 37) fun a3 =>
  ka h a3 .int fun n6 =>
  chk (inb 2 n6 = true) <|
  if (hI h a3 (2 : Int32).toNatClampNeg) ≤ x4 then
    kr (hR h x0 14) fun a9 =>
    bd (f_X12_asks x0 a9 h) fun _ h12 =>
    ko h12 x0 11 <|
    bd (f_X12_number x0 1 7 h12) fun v14 h15 =>
    ko h15 x0 11 <|
    if (hI h15 x0 5) = 0 then
      kr (hR h15 x0 38) fun a19 =>
      kr (hR h15 x0 37) fun a21 =>
      ka h15 a21 .int fun n24 =>
      chk (inb 2 n24 = true) <|
      ka h15 a19 .long fun n27 =>
      chk (inb (hI h15 a21 (2 : Int32).toNatClampNeg) n27 = true) <|
      kr (hR h15 x0 39) fun a29 =>
      nm (hI (sL h15 a19 (hI h15 a21 (2 : Int32).toNatClampNeg : Int32).toNatClampNeg x2) a21 (2 : Int32).toNatClampNeg) fun (v31 : Int32) =>
      ka h15 a29 .int fun n33 =>
      chk (inb v31 n33 = true) <|
      nm (hI (sI (sL h15 a19 (hI h15 a21 (2 : Int32).toNatClampNeg : Int32).toNatClampNeg x2) a29 v31.toNatClampNeg v14) a21 (2 : Int32).toNatClampNeg) fun (v35 : Int32) =>
      some ((), sI (sI (sL h15 a19 (hI h15 a21 (2 : Int32).toNatClampNeg : Int32).toNatClampNeg x2) a29 v31.toNatClampNeg v14) a21 (2 : Int32).toNatClampNeg (v35 + 1))
    else
      some ((), h15)
  else
    if (hI h x0 5) = 0 then
      kr (hR h x0 38) fun a38 =>
      ka h a38 .long fun n41 =>
      chk (inb x4 n41 = true) <|
      if (lg_cmp (hL h a38 x4.toNatClampNeg) x2) = 0 then
        bd (f_X12_fail x0 3 (hI h x0 36) h) fun _ h45 =>
        f_X12_shelfTold_70 k31 x0 x2 x4 h45
      else
        f_X12_shelfTold_70 k31 x0 x2 x4 h
    else
      f_X12_shelfTold_70 k31 x0 x2 x4 h
set_option maxRecDepth 100000 in
set_option maxHeartbeats 4000000 in
theorem tb_X12_shelfTold_31 {Γ : gS} {d : Nat} (hd : 4 ≤ d) {k31 : Nat → Int64 → Int32 → aH → Option (Unit × aH)} (hk31 : ∀ {x0 : Nat} {x2 : Int64} {x4 : Int32} {h : aH} {r : Unit} {h' : aH}, k31 x0 x2 x4 h = some (r, h') → Ex Γ gX12_shelfTold d 31 [(0, .ref x0), (2, .long x2), (4, .int x4)] [] h none h') {x0 : Nat} {x2 : Int64} {x4 : Int32} {h : aH} {r : Unit} {h' : aH} (H : b_X12_shelfTold_31 k31 x0 x2 x4 h = some (r, h')) : Ex Γ gX12_shelfTold d 31 [(0, .ref x0), (2, .long x2), (4, .int x4)] [] h none h' := by
  unfold b_X12_shelfTold_31 at H
  obtain ⟨d, rfl⟩ : ∃ e, d = e + 1 := ⟨d - 1, by omega⟩
  refine x_iload dX12_shelfTold_31 2 rfl ?_
  refine x_aload_n dX12_shelfTold_33 rfl 0 rfl ?_
  obtain ⟨c2, H⟩ := ko_o H
  obtain ⟨a3, c4, H⟩ := kr_o H
  refine x_getR fr_X12_96 dX12_shelfTold_34 c2 rfl c4 ?_
  refine x_iconst (v := 2) dX12_shelfTold_37 (by decide) ?_
  obtain ⟨n6, c5, H⟩ := ka_o H
  obtain ⟨c7, H⟩ := chk_o H
  refine x_iald dX12_shelfTold_38 c5 (inb_in.mp c7) ?_
  refine x_icmp_ge (tgt := 76) dX12_shelfTold_39 (by decide) (fun c8 => ?_) (fun c8 => ?_)
  · replace H := ite_p H c8
    refine x_aload_n dX12_shelfTold_76 rfl 0 rfl ?_
    refine x_aload_n dX12_shelfTold_77 rfl 0 rfl ?_
    obtain ⟨a9, c10, H⟩ := kr_o H
    refine x_getR fr_X12_30 dX12_shelfTold_78 c2 rfl c10 ?_
    obtain ⟨v11, h12, hc13, H⟩ := bd_o H
    refine x_callVv (As := [.ref a9]) (q := (RX12, TX12, 103)) dX12_shelfTold_81 mi_X12_asks lk_X12_290 im_X12_asks se_X12_asks rfl c2 rfl rfl (Nat.le_of_ble_eq_true rfl) (t_X12_asks (by omega) hc13) ?_
    refine x_aload_n dX12_shelfTold_84 rfl 0 rfl ?_
    refine x_iconst (v := 1) dX12_shelfTold_85 (by decide) ?_
    refine x_bipush (v := 7) dX12_shelfTold_86 (by decide) ?_
    obtain ⟨c36, H⟩ := ko_o H
    obtain ⟨v14, h15, hc16, H⟩ := bd_o H
    refine x_callVi (As := [.int 1, .int 7]) (q := (RX12, TX12, 103)) dX12_shelfTold_88 mi_X12_number lk_X12_294 im_X12_number se_X12_number rfl c36 rfl rfl (Nat.le_of_ble_eq_true rfl) (t_X12_number (by omega) hc16) ?_
    refine x_istore (lv' := [(4, .int v14), (0, .ref x0), (2, .long x2)]) dX12_shelfTold_91 (by decide) rfl rfl ?_
    refine x_aload_n dX12_shelfTold_93 rfl 1 rfl ?_
    obtain ⟨c17, H⟩ := ko_o H
    refine x_getI fr_X12_225 dX12_shelfTold_94 c17 rfl ?_
    refine x_if_eq (tgt := 101) dX12_shelfTold_97 (by decide) (fun c18 => ?_) (fun c18 => ?_)
    · replace H := ite_p H c18
      refine x_aload_n dX12_shelfTold_101 rfl 1 rfl ?_
      obtain ⟨a19, c20, H⟩ := kr_o H
      refine x_getR fr_X12_99 dX12_shelfTold_102 c17 rfl c20 ?_
      refine x_aload_n dX12_shelfTold_105 rfl 1 rfl ?_
      obtain ⟨a21, c22, H⟩ := kr_o H
      refine x_getR fr_X12_96 dX12_shelfTold_106 c17 rfl c22 ?_
      refine x_iconst (v := 2) dX12_shelfTold_109 (by decide) ?_
      obtain ⟨n24, c23, H⟩ := ka_o H
      obtain ⟨c25, H⟩ := chk_o H
      refine x_iald dX12_shelfTold_110 c23 (inb_in.mp c25) ?_
      refine x_lload_n dX12_shelfTold_111 rfl 2 rfl ?_
      obtain ⟨n27, c26, H⟩ := ka_o H
      obtain ⟨c28, H⟩ := chk_o H
      refine x_last dX12_shelfTold_112 c26 (inb_in.mp c28) ?_
      refine x_aload_n dX12_shelfTold_113 rfl 1 rfl ?_
      obtain ⟨a29, c30, H⟩ := kr_o H
      refine x_getR fr_X12_103 dX12_shelfTold_114 c17 rfl c30 ?_
      refine x_aload_n dX12_shelfTold_117 rfl 1 rfl ?_
      refine x_getR fr_X12_96 dX12_shelfTold_118 c17 rfl c22 ?_
      refine x_iconst (v := 2) dX12_shelfTold_121 (by decide) ?_
      obtain ⟨v31, ev31, H⟩ := nm_o H
      refine x_ialde dX12_shelfTold_122 c23 (inb_in.mp c25) ev31 ?_
      refine x_iload dX12_shelfTold_123 0 rfl ?_
      obtain ⟨n33, c32, H⟩ := ka_o H
      obtain ⟨c34, H⟩ := chk_o H
      refine x_iast dX12_shelfTold_125 c32 (inb_in.mp c34) ?_
      refine x_aload_n dX12_shelfTold_126 rfl 1 rfl ?_
      refine x_getR fr_X12_96 dX12_shelfTold_127 c17 rfl c22 ?_
      refine x_iconst (v := 2) dX12_shelfTold_130 (by decide) ?_
      refine x_dup2 dX12_shelfTold_131 rfl rfl ?_
      obtain ⟨v35, ev35, H⟩ := nm_o H
      refine x_ialde dX12_shelfTold_132 c23 (inb_in.mp c25) ev35 ?_
      refine x_iconst (v := 1) dX12_shelfTold_133 (by decide) ?_
      refine x_iadd dX12_shelfTold_134 ?_
      refine x_iast dX12_shelfTold_135 c23 (inb_in.mp c25) ?_
      obtain ⟨-, rfl⟩ := so_1 H
      exact x_vret dX12_shelfTold_136 rfl
    · replace H := ite_m H c18
      obtain ⟨-, rfl⟩ := so_1 H
      exact x_vret dX12_shelfTold_100 rfl
  · replace H := ite_m H c8
    refine x_aload_n dX12_shelfTold_42 rfl 0 rfl ?_
    refine x_getI fr_X12_225 dX12_shelfTold_43 c2 rfl ?_
    refine x_if_ne (tgt := 70) dX12_shelfTold_46 (by decide) (fun c37 => ?_) (fun c37 => ?_)
    · replace H := ite_m H c37
      exact t_X12_shelfTold_70 hd hk31 H
    · replace H := ite_p H c37
      refine x_aload_n dX12_shelfTold_49 rfl 0 rfl ?_
      obtain ⟨a38, c39, H⟩ := kr_o H
      refine x_getR fr_X12_99 dX12_shelfTold_50 c2 rfl c39 ?_
      refine x_iload dX12_shelfTold_53 2 rfl ?_
      obtain ⟨n41, c40, H⟩ := ka_o H
      obtain ⟨c42, H⟩ := chk_o H
      refine x_lald dX12_shelfTold_55 c40 (inb_in.mp c42) ?_
      refine x_lload_n dX12_shelfTold_56 rfl 1 rfl ?_
      refine x_lcmp dX12_shelfTold_57 ?_
      refine x_if_ne (tgt := 70) dX12_shelfTold_58 (by decide) (fun c43 => ?_) (fun c43 => ?_)
      · replace H := ite_m H c43
        exact t_X12_shelfTold_70 hd hk31 H
      · replace H := ite_p H c43
        refine x_aload_n dX12_shelfTold_61 rfl 0 rfl ?_
        refine x_iconst (v := 3) dX12_shelfTold_62 (by decide) ?_
        refine x_aload_n dX12_shelfTold_63 rfl 0 rfl ?_
        refine x_getI fr_X12_276 dX12_shelfTold_64 c2 rfl ?_
        obtain ⟨v44, h45, hc46, H⟩ := bd_o H
        refine x_callVv (As := [.int 3, .int (hI h x0 36)]) (q := (RX12, TX12, 103)) dX12_shelfTold_67 mi_X12_fail lk_X12_255 im_X12_fail se_X12_fail rfl c2 rfl rfl (Nat.le_of_ble_eq_true rfl) (t_X12_fail (by omega) hc46) ?_
        exact t_X12_shelfTold_70 hd hk31 H
def f_X12_shelfTold_31 : Nat → Nat → Int64 → Int32 → aH → Option (Unit × aH)
  | 0 => fun _ _ _ _ => none
  | n + 1 => b_X12_shelfTold_31 (f_X12_shelfTold_31 n)
set_option maxRecDepth 100000 in
set_option maxHeartbeats 4000000 in
theorem t_X12_shelfTold_31 {Γ : gS} {d : Nat} (hd : 4 ≤ d) (n : Nat) : ∀ {x0 : Nat} {x2 : Int64} {x4 : Int32} {h : aH} {r : Unit} {h' : aH}, f_X12_shelfTold_31 n x0 x2 x4 h = some (r, h') → Ex Γ gX12_shelfTold d 31 [(0, .ref x0), (2, .long x2), (4, .int x4)] [] h none h' := by
  induction n with
  | zero => intro x0 x2 x4 h r h' H; cases H
  | succ n ih => intro x0 x2 x4 h r h' H; exact tb_X12_shelfTold_31 hd ih H
def f_X12_shelfTold_23 (x0 : Nat) (h : aH) : Option (Unit × aH) :=
  ko h x0 11 <|
  bd (f_X12_name x0 h) fun v47 h48 =>
  f_X12_shelfTold_31 FU x0 v47 0 h48
set_option maxRecDepth 100000 in
set_option maxHeartbeats 4000000 in
theorem t_X12_shelfTold_23 {Γ : gS} {d : Nat} (hd : 4 ≤ d) {x0 : Nat} {h : aH} {r : Unit} {h' : aH} (H : f_X12_shelfTold_23 x0 h = some (r, h')) : Ex Γ gX12_shelfTold d 23 [(0, .ref x0)] [] h none h' := by
  unfold f_X12_shelfTold_23 at H
  obtain ⟨d, rfl⟩ : ∃ e, d = e + 1 := ⟨d - 1, by omega⟩
  refine x_aload_n dX12_shelfTold_23 rfl 0 rfl ?_
  obtain ⟨c50, H⟩ := ko_o H
  obtain ⟨v47, h48, hc49, H⟩ := bd_o H
  refine x_callVl (As := []) (q := (RX12, TX12, 103)) dX12_shelfTold_24 mi_X12_name lk_X12_302 im_X12_name se_X12_name rfl c50 rfl rfl (Nat.le_of_ble_eq_true rfl) (t_X12_name (by omega) hc49) ?_
  refine x_lstore_n (lv' := [(2, .long v47), (0, .ref x0)]) dX12_shelfTold_27 rfl (by decide) rfl rfl ?_
  refine x_iconst (v := 0) dX12_shelfTold_28 (by decide) ?_
  refine x_istore (lv' := [(4, .int 0), (2, .long v47), (0, .ref x0)]) dX12_shelfTold_29 (by decide) rfl rfl ?_
  refine Ex.sub [2, 1, 0] rfl ?_
  exact t_X12_shelfTold_31 hd FU H
def f_X12_shelfTold (x0 : Nat) (x1 : Int32) (h : aH) : Option (Unit × aH) :=
  ko h x0 11 <|
  if (hI h x0 5) = 0 then
    kr (hR h x0 37) fun a53 =>
    ka h a53 .int fun n56 =>
    chk (inb 2 n56 = true) <|
    if (hI h a53 (2 : Int32).toNatClampNeg) = 4 then
      bd (f_X12_fail x0 5 x1 h) fun _ h60 =>
      f_X12_shelfTold_23 x0 h60
    else
      f_X12_shelfTold_23 x0 h
  else
    f_X12_shelfTold_23 x0 h
set_option maxRecDepth 100000 in
set_option maxHeartbeats 4000000 in
theorem t_X12_shelfTold {Γ : gS} {d : Nat} (hd : 4 ≤ d) {x0 : Nat} {x1 : Int32} {h : aH} {r : Unit} {h' : aH} (H : f_X12_shelfTold x0 x1 h = some (r, h')) : Mx Γ gX12_shelfTold d [.ref x0, .int x1] h none h' := by
  refine Mx.of (by decide +kernel) (Nat.le_of_ble_eq_true rfl) ?_
  unfold f_X12_shelfTold at H
  show Ex Γ gX12_shelfTold d 0 [(0, .ref x0), (1, .int x1)] [] h none h'
  obtain ⟨d, rfl⟩ : ∃ e, d = e + 1 := ⟨d - 1, by omega⟩
  refine x_aload_n dX12_shelfTold_0 rfl 0 rfl ?_
  obtain ⟨c51, H⟩ := ko_o H
  refine x_getI fr_X12_225 dX12_shelfTold_1 c51 rfl ?_
  refine x_if_ne (tgt := 23) dX12_shelfTold_4 (by decide) (fun c52 => ?_) (fun c52 => ?_)
  · replace H := ite_m H c52
    refine Ex.sub [0] rfl ?_
    exact t_X12_shelfTold_23 hd H
  · replace H := ite_p H c52
    refine x_aload_n dX12_shelfTold_7 rfl 0 rfl ?_
    obtain ⟨a53, c54, H⟩ := kr_o H
    refine x_getR fr_X12_96 dX12_shelfTold_8 c51 rfl c54 ?_
    refine x_iconst (v := 2) dX12_shelfTold_11 (by decide) ?_
    obtain ⟨n56, c55, H⟩ := ka_o H
    obtain ⟨c57, H⟩ := chk_o H
    refine x_iald dX12_shelfTold_12 c55 (inb_in.mp c57) ?_
    refine x_iconst (v := 4) dX12_shelfTold_13 (by decide) ?_
    refine x_icmp_ne (tgt := 23) dX12_shelfTold_14 (by decide) (fun c58 => ?_) (fun c58 => ?_)
    · replace H := ite_m H c58
      refine Ex.sub [0] rfl ?_
      exact t_X12_shelfTold_23 hd H
    · replace H := ite_p H c58
      refine x_aload_n dX12_shelfTold_17 rfl 0 rfl ?_
      refine x_iconst (v := 5) dX12_shelfTold_18 (by decide) ?_
      refine x_iload_n dX12_shelfTold_19 rfl 1 rfl ?_
      obtain ⟨v59, h60, hc61, H⟩ := bd_o H
      refine x_callVv (As := [.int 5, .int x1]) (q := (RX12, TX12, 103)) dX12_shelfTold_20 mi_X12_fail lk_X12_255 im_X12_fail se_X12_fail rfl c51 rfl rfl (Nat.le_of_ble_eq_true rfl) (t_X12_fail (by omega) hc61) ?_
      refine Ex.sub [0] rfl ?_
      exact t_X12_shelfTold_23 hd H
def f_X12_qCode (x0 : Nat) (x1 : Int32) (h : aH) : Option (Unit × aH) :=
  ko h x0 11 <|
  kr (hR h x0 91) fun a2 =>
  ka h a2 .int fun n5 =>
  chk (inb (hI h x0 92) n5 = true) <|
  nm (hI (sI h a2 (hI h x0 92 : Int32).toNatClampNeg x1) x0 92) fun (v7 : Int32) =>
  some ((), sI (sI h a2 (hI h x0 92 : Int32).toNatClampNeg x1) x0 92 (v7 + 1))
set_option maxRecDepth 100000 in
set_option maxHeartbeats 4000000 in
theorem t_X12_qCode {Γ : gS} {d : Nat} (hd : 0 ≤ d) {x0 : Nat} {x1 : Int32} {h : aH} {r : Unit} {h' : aH} (H : f_X12_qCode x0 x1 h = some (r, h')) : Mx Γ gX12_qCode d [.ref x0, .int x1] h none h' := by
  refine Mx.of (by decide +kernel) (Nat.le_of_ble_eq_true rfl) ?_
  unfold f_X12_qCode at H
  show Ex Γ gX12_qCode d 0 [(0, .ref x0), (1, .int x1)] [] h none h'
  refine x_aload_n dX12_qCode_0 rfl 0 rfl ?_
  obtain ⟨c1, H⟩ := ko_o H
  obtain ⟨a2, c3, H⟩ := kr_o H
  refine x_getR fr_X12_210 dX12_qCode_1 c1 rfl c3 ?_
  refine x_aload_n dX12_qCode_4 rfl 0 rfl ?_
  refine x_getI fr_X12_306 dX12_qCode_5 c1 rfl ?_
  refine x_iload_n dX12_qCode_8 rfl 1 rfl ?_
  obtain ⟨n5, c4, H⟩ := ka_o H
  obtain ⟨c6, H⟩ := chk_o H
  refine x_iast dX12_qCode_9 c4 (inb_in.mp c6) ?_
  refine x_aload_n dX12_qCode_10 rfl 0 rfl ?_
  refine x_dup dX12_qCode_11 rfl ?_
  obtain ⟨v7, ev7, H⟩ := nm_o H
  refine x_getIe fr_X12_306 dX12_qCode_12 c1 rfl ev7 ?_
  refine x_iconst (v := 1) dX12_qCode_15 (by decide) ?_
  refine x_iadd dX12_qCode_16 ?_
  refine x_putI fl_X12_306 dX12_qCode_17 c1 (fun e => by cases e) rfl ?_
  obtain ⟨-, rfl⟩ := so_1 H
  exact x_vret dX12_qCode_20 rfl
def f_X12_qDrops (x0 : Nat) (h : aH) : Option (Unit × aH) :=
  ko h x0 11 <|
  kr (hR h x0 93) fun a2 =>
  nm (hI (sI h x0 94 ((hI h x0 94) - 1)) x0 94) fun (v4 : Int32) =>
  ka h a2 .int fun n6 =>
  chk (inb v4 n6 = true) <|
  nm (hI (sI h x0 94 ((hI h x0 94) - 1)) a2 v4.toNatClampNeg) fun (v8 : Int32) =>
  bd (f_X12_qCode x0 v8 (sI h x0 94 ((hI h x0 94) - 1))) fun _ h10 =>
  some ((), h10)
set_option maxRecDepth 100000 in
set_option maxHeartbeats 4000000 in
theorem t_X12_qDrops {Γ : gS} {d : Nat} (hd : 1 ≤ d) {x0 : Nat} {h : aH} {r : Unit} {h' : aH} (H : f_X12_qDrops x0 h = some (r, h')) : Mx Γ gX12_qDrops d [.ref x0] h none h' := by
  refine Mx.of (by decide +kernel) (Nat.le_of_ble_eq_true rfl) ?_
  unfold f_X12_qDrops at H
  show Ex Γ gX12_qDrops d 0 [(0, .ref x0)] [] h none h'
  obtain ⟨d, rfl⟩ : ∃ e, d = e + 1 := ⟨d - 1, by omega⟩
  refine x_aload_n dX12_qDrops_0 rfl 0 rfl ?_
  refine x_dup dX12_qDrops_1 rfl ?_
  obtain ⟨c1, H⟩ := ko_o H
  refine x_getI fr_X12_309 dX12_qDrops_2 c1 rfl ?_
  refine x_iconst (v := 1) dX12_qDrops_5 (by decide) ?_
  refine x_isub dX12_qDrops_6 ?_
  refine x_putI fl_X12_309 dX12_qDrops_7 c1 (fun e => by cases e) rfl ?_
  refine x_aload_n dX12_qDrops_10 rfl 0 rfl ?_
  refine x_aload_n dX12_qDrops_11 rfl 0 rfl ?_
  obtain ⟨a2, c3, H⟩ := kr_o H
  refine x_getR fr_X12_213 dX12_qDrops_12 c1 rfl c3 ?_
  refine x_aload_n dX12_qDrops_15 rfl 0 rfl ?_
  obtain ⟨v4, ev4, H⟩ := nm_o H
  refine x_getIe fr_X12_309 dX12_qDrops_16 c1 rfl ev4 ?_
  obtain ⟨n6, c5, H⟩ := ka_o H
  obtain ⟨c7, H⟩ := chk_o H
  obtain ⟨v8, ev8, H⟩ := nm_o H
  refine x_ialde dX12_qDrops_19 c5 (inb_in.mp c7) ev8 ?_
  obtain ⟨v9, h10, hc11, H⟩ := bd_o H
  refine x_callVv (As := [.int v8]) (q := (RX12, TX12, 103)) dX12_qDrops_20 mi_X12_qCode lk_X12_575 im_X12_qCode se_X12_qCode rfl c1 rfl rfl (Nat.le_of_ble_eq_true rfl) (t_X12_qCode (by omega) hc11) ?_
  obtain ⟨-, rfl⟩ := so_1 H
  exact x_vret dX12_qDrops_23 rfl
def f_X12_qIsBracket_17 (s0 : Int32) (h : aH) : Option (Int32 × aH) :=
  chk (narrow .boolean (.int s0) = .int s0) <|
  some (s0, h)
set_option maxRecDepth 100000 in
set_option maxHeartbeats 4000000 in
theorem t_X12_qIsBracket_17 {Γ : gS} {d : Nat} (hd : 0 ≤ d) {s0 : Int32} {h : aH} {r : Int32} {h' : aH} (H : f_X12_qIsBracket_17 s0 h = some (r, h')) : Ex Γ gX12_qIsBracket d 17 [] [.int s0] h (some (.int r)) h' := by
  unfold f_X12_qIsBracket_17 at H
  obtain ⟨c1, H⟩ := chk_o H
  obtain ⟨rfl, rfl⟩ := so_1 H
  exact x_iret dX12_qIsBracket_17 rfl c1
def f_X12_qIsBracket_16 (h : aH) : Option (Int32 × aH) :=
  f_X12_qIsBracket_17 0 h
set_option maxRecDepth 100000 in
set_option maxHeartbeats 4000000 in
theorem t_X12_qIsBracket_16 {Γ : gS} {d : Nat} (hd : 0 ≤ d) {h : aH} {r : Int32} {h' : aH} (H : f_X12_qIsBracket_16 h = some (r, h')) : Ex Γ gX12_qIsBracket d 16 [] [] h (some (.int r)) h' := by
  unfold f_X12_qIsBracket_16 at H
  refine x_iconst (v := 0) dX12_qIsBracket_16 (by decide) ?_
  exact t_X12_qIsBracket_17 hd H
def f_X12_qIsBracket (x0 : Int32) (h : aH) : Option (Int32 × aH) :=
  if x0 < 20 then
    f_X12_qIsBracket_16 h
  else
    if 24 < x0 then
      f_X12_qIsBracket_16 h
    else
      f_X12_qIsBracket_17 1 h
set_option maxRecDepth 100000 in
set_option maxHeartbeats 4000000 in
theorem t_X12_qIsBracket {Γ : gS} {d : Nat} (hd : 0 ≤ d) {x0 : Int32} {h : aH} {r : Int32} {h' : aH} (H : f_X12_qIsBracket x0 h = some (r, h')) : Mx Γ gX12_qIsBracket d [.int x0] h (some (.int r)) h' := by
  refine Mx.of (by decide +kernel) (Nat.le_of_ble_eq_true rfl) ?_
  unfold f_X12_qIsBracket at H
  show Ex Γ gX12_qIsBracket d 0 [(0, .int x0)] [] h (some (.int r)) h'
  refine x_iload_n dX12_qIsBracket_0 rfl 0 rfl ?_
  refine x_bipush (v := 20) dX12_qIsBracket_1 (by decide) ?_
  refine x_icmp_lt (tgt := 16) dX12_qIsBracket_3 (by decide) (fun c2 => ?_) (fun c2 => ?_)
  · replace H := ite_p H c2
    refine Ex.sub [] rfl ?_
    exact t_X12_qIsBracket_16 hd H
  · replace H := ite_m H c2
    refine x_iload_n dX12_qIsBracket_6 rfl 0 rfl ?_
    refine x_bipush (v := 24) dX12_qIsBracket_7 (by decide) ?_
    refine x_icmp_gt (tgt := 16) dX12_qIsBracket_9 (by decide) (fun c3 => ?_) (fun c3 => ?_)
    · replace H := ite_p H c3
      refine Ex.sub [] rfl ?_
      exact t_X12_qIsBracket_16 hd H
    · replace H := ite_m H c3
      refine x_iconst (v := 1) dX12_qIsBracket_12 (by decide) ?_
      refine x_goto (tgt := 17) dX12_qIsBracket_13 (by decide) ?_
      refine Ex.sub [] rfl ?_
      exact t_X12_qIsBracket_17 hd H
def f_X12_qBracket_51 (s0 : Int32) (h : aH) : Option (Int32 × aH) :=
  some (s0, h)
set_option maxRecDepth 100000 in
set_option maxHeartbeats 4000000 in
theorem t_X12_qBracket_51 {Γ : gS} {d : Nat} (hd : 1 ≤ d) {s0 : Int32} {h : aH} {r : Int32} {h' : aH} (H : f_X12_qBracket_51 s0 h = some (r, h')) : Ex Γ gX12_qBracket d 51 [] [.int s0] h (some (.int r)) h' := by
  unfold f_X12_qBracket_51 at H
  obtain ⟨d, rfl⟩ : ∃ e, d = e + 1 := ⟨d - 1, by omega⟩
  obtain ⟨rfl, rfl⟩ := so_1 H
  exact x_iret dX12_qBracket_51 rfl rfl
def f_X12_qBracket_33 (x0 : Nat) (x1 : Int32) (h : aH) : Option (Int32 × aH) :=
  ko h x0 11 <|
  if x1 < (hI h x0 96) then
    f_X12_qBracket_51 (-1) h
  else
    kr (hR h x0 93) fun a3 =>
    ka h a3 .int fun n6 =>
    chk (inb x1 n6 = true) <|
    f_X12_qBracket_51 (hI h a3 x1.toNatClampNeg) h
set_option maxRecDepth 100000 in
set_option maxHeartbeats 4000000 in
theorem t_X12_qBracket_33 {Γ : gS} {d : Nat} (hd : 1 ≤ d) {x0 : Nat} {x1 : Int32} {h : aH} {r : Int32} {h' : aH} (H : f_X12_qBracket_33 x0 x1 h = some (r, h')) : Ex Γ gX12_qBracket d 33 [(0, .ref x0), (1, .int x1)] [] h (some (.int r)) h' := by
  unfold f_X12_qBracket_33 at H
  obtain ⟨d, rfl⟩ : ∃ e, d = e + 1 := ⟨d - 1, by omega⟩
  refine x_iload_n dX12_qBracket_33 rfl 1 rfl ?_
  refine x_aload_n dX12_qBracket_34 rfl 0 rfl ?_
  obtain ⟨c1, H⟩ := ko_o H
  refine x_getI fr_X12_315 dX12_qBracket_35 c1 rfl ?_
  refine x_icmp_lt (tgt := 50) dX12_qBracket_38 (by decide) (fun c2 => ?_) (fun c2 => ?_)
  · replace H := ite_p H c2
    refine x_iconst (v := (-1)) dX12_qBracket_50 (by decide) ?_
    refine Ex.sub [] rfl ?_
    exact t_X12_qBracket_51 hd H
  · replace H := ite_m H c2
    refine x_aload_n dX12_qBracket_41 rfl 0 rfl ?_
    obtain ⟨a3, c4, H⟩ := kr_o H
    refine x_getR fr_X12_213 dX12_qBracket_42 c1 rfl c4 ?_
    refine x_iload_n dX12_qBracket_45 rfl 1 rfl ?_
    obtain ⟨n6, c5, H⟩ := ka_o H
    obtain ⟨c7, H⟩ := chk_o H
    refine x_iald dX12_qBracket_46 c5 (inb_in.mp c7) ?_
    refine x_goto (tgt := 51) dX12_qBracket_47 (by decide) ?_
    refine Ex.sub [] rfl ?_
    exact t_X12_qBracket_51 hd H
def b_X12_qBracket_7 (k7 : Nat → Int32 → aH → Option (Int32 × aH)) (x0 : Nat) (x1 : Int32) (h : aH) : Option (Int32 × aH) :=
  ko h x0 11 <|
  if x1 < (hI h x0 96) then
    f_X12_qBracket_33 x0 x1 h
  else
    kr (hR h x0 93) fun a10 =>
    ka h a10 .int fun n13 =>
    chk (inb x1 n13 = true) <|
    bd (f_X12_qIsBracket (hI h a10 x1.toNatClampNeg) h) fun v15 h16 =>
    if v15 = 0 then
      nm (x1 + (-1)) fun (v19 : Int32) =>
      k7 x0 v19 h16
    else
      f_X12_qBracket_33 x0 x1 h16
set_option maxRecDepth 100000 in
set_option maxHeartbeats 4000000 in
theorem tb_X12_qBracket_7 {Γ : gS} {d : Nat} (hd : 1 ≤ d) {k7 : Nat → Int32 → aH → Option (Int32 × aH)} (hk7 : ∀ {x0 : Nat} {x1 : Int32} {h : aH} {r : Int32} {h' : aH}, k7 x0 x1 h = some (r, h') → Ex Γ gX12_qBracket d 7 [(0, .ref x0), (1, .int x1)] [] h (some (.int r)) h') {x0 : Nat} {x1 : Int32} {h : aH} {r : Int32} {h' : aH} (H : b_X12_qBracket_7 k7 x0 x1 h = some (r, h')) : Ex Γ gX12_qBracket d 7 [(0, .ref x0), (1, .int x1)] [] h (some (.int r)) h' := by
  unfold b_X12_qBracket_7 at H
  obtain ⟨d, rfl⟩ : ∃ e, d = e + 1 := ⟨d - 1, by omega⟩
  refine x_iload_n dX12_qBracket_7 rfl 1 rfl ?_
  refine x_aload_n dX12_qBracket_8 rfl 0 rfl ?_
  obtain ⟨c8, H⟩ := ko_o H
  refine x_getI fr_X12_315 dX12_qBracket_9 c8 rfl ?_
  refine x_icmp_lt (tgt := 33) dX12_qBracket_12 (by decide) (fun c9 => ?_) (fun c9 => ?_)
  · replace H := ite_p H c9
    exact t_X12_qBracket_33 hd H
  · replace H := ite_m H c9
    refine x_aload_n dX12_qBracket_15 rfl 0 rfl ?_
    obtain ⟨a10, c11, H⟩ := kr_o H
    refine x_getR fr_X12_213 dX12_qBracket_16 c8 rfl c11 ?_
    refine x_iload_n dX12_qBracket_19 rfl 1 rfl ?_
    obtain ⟨n13, c12, H⟩ := ka_o H
    obtain ⟨c14, H⟩ := chk_o H
    refine x_iald dX12_qBracket_20 c12 (inb_in.mp c14) ?_
    obtain ⟨v15, h16, hc17, H⟩ := bd_o H
    refine x_callSi (As := [.int (hI h a10 x1.toNatClampNeg)]) dX12_qBracket_21 mi_X12_qIsBracket lk_X12_578 sm_X12_qIsBracket rfl rfl (Nat.le_of_ble_eq_true rfl) (t_X12_qIsBracket (by omega) hc17) ?_
    refine x_if_ne (tgt := 33) dX12_qBracket_24 (by decide) (fun c18 => ?_) (fun c18 => ?_)
    · replace H := ite_m H c18
      exact t_X12_qBracket_33 hd H
    · replace H := ite_p H c18
      obtain ⟨v19, ev19, H⟩ := nm_o H
      refine x_iinc (v := v19) (lv' := [(1, .int v19), (0, .ref x0)]) dX12_qBracket_27 1 rfl (by decide) ev19 rfl ?_
      refine x_goto (tgt := 7) dX12_qBracket_30 (by decide) ?_
      refine Ex.sub [1, 0] rfl ?_
      exact hk7 H
def f_X12_qBracket_7 : Nat → Nat → Int32 → aH → Option (Int32 × aH)
  | 0 => fun _ _ _ => none
  | n + 1 => b_X12_qBracket_7 (f_X12_qBracket_7 n)
set_option maxRecDepth 100000 in
set_option maxHeartbeats 4000000 in
theorem t_X12_qBracket_7 {Γ : gS} {d : Nat} (hd : 1 ≤ d) (n : Nat) : ∀ {x0 : Nat} {x1 : Int32} {h : aH} {r : Int32} {h' : aH}, f_X12_qBracket_7 n x0 x1 h = some (r, h') → Ex Γ gX12_qBracket d 7 [(0, .ref x0), (1, .int x1)] [] h (some (.int r)) h' := by
  induction n with
  | zero => intro x0 x1 h r h' H; cases H
  | succ n ih => intro x0 x1 h r h' H; exact tb_X12_qBracket_7 hd ih H
def f_X12_qBracket (x0 : Nat) (h : aH) : Option (Int32 × aH) :=
  ko h x0 11 <|
  nm ((hI h x0 94) - 1) fun (v21 : Int32) =>
  f_X12_qBracket_7 FU x0 v21 h
set_option maxRecDepth 100000 in
set_option maxHeartbeats 4000000 in
theorem t_X12_qBracket {Γ : gS} {d : Nat} (hd : 1 ≤ d) {x0 : Nat} {h : aH} {r : Int32} {h' : aH} (H : f_X12_qBracket x0 h = some (r, h')) : Mx Γ gX12_qBracket d [.ref x0] h (some (.int r)) h' := by
  refine Mx.of (by decide +kernel) (Nat.le_of_ble_eq_true rfl) ?_
  unfold f_X12_qBracket at H
  show Ex Γ gX12_qBracket d 0 [(0, .ref x0)] [] h (some (.int r)) h'
  obtain ⟨d, rfl⟩ : ∃ e, d = e + 1 := ⟨d - 1, by omega⟩
  refine x_aload_n dX12_qBracket_0 rfl 0 rfl ?_
  obtain ⟨c20, H⟩ := ko_o H
  refine x_getI fr_X12_309 dX12_qBracket_1 c20 rfl ?_
  refine x_iconst (v := 1) dX12_qBracket_4 (by decide) ?_
  refine x_isub dX12_qBracket_5 ?_
  obtain ⟨v21, ev21, H⟩ := nm_o H
  refine x_istore_n (lv' := [(1, .int v21), (0, .ref x0)]) dX12_qBracket_6 rfl (by decide) ev21 rfl ?_
  refine Ex.sub [1, 0] rfl ?_
  exact t_X12_qBracket_7 hd FU H
def f_X12_qDropsToBracket_35 (h : aH) : Option (Unit × aH) :=
  some ((), h)
set_option maxRecDepth 100000 in
set_option maxHeartbeats 4000000 in
theorem t_X12_qDropsToBracket_35 {Γ : gS} {d : Nat} (hd : 2 ≤ d) {h : aH} {r : Unit} {h' : aH} (H : f_X12_qDropsToBracket_35 h = some (r, h')) : Ex Γ gX12_qDropsToBracket d 35 [] [] h none h' := by
  unfold f_X12_qDropsToBracket_35 at H
  obtain ⟨d, rfl⟩ : ∃ e, d = e + 1 := ⟨d - 1, by omega⟩
  obtain ⟨-, rfl⟩ := so_1 H
  exact x_vret dX12_qDropsToBracket_35 rfl
def b_X12_qDropsToBracket_0 (k0 : Nat → aH → Option (Unit × aH)) (x0 : Nat) (h : aH) : Option (Unit × aH) :=
  ko h x0 11 <|
  if (hI h x0 94) ≤ (hI h x0 96) then
    f_X12_qDropsToBracket_35 h
  else
    kr (hR h x0 93) fun a3 =>
    ka h a3 .int fun n6 =>
    chk (inb ((hI h x0 94) - 1) n6 = true) <|
    bd (f_X12_qIsBracket (hI h a3 ((hI h x0 94) - 1 : Int32).toNatClampNeg) h) fun v8 h9 =>
    if v8 = 0 then
      ko h9 x0 11 <|
      bd (f_X12_qDrops x0 h9) fun _ h13 =>
      k0 x0 h13
    else
      f_X12_qDropsToBracket_35 h9
set_option maxRecDepth 100000 in
set_option maxHeartbeats 4000000 in
theorem tb_X12_qDropsToBracket_0 {Γ : gS} {d : Nat} (hd : 2 ≤ d) {k0 : Nat → aH → Option (Unit × aH)} (hk0 : ∀ {x0 : Nat} {h : aH} {r : Unit} {h' : aH}, k0 x0 h = some (r, h') → Ex Γ gX12_qDropsToBracket d 0 [(0, .ref x0)] [] h none h') {x0 : Nat} {h : aH} {r : Unit} {h' : aH} (H : b_X12_qDropsToBracket_0 k0 x0 h = some (r, h')) : Ex Γ gX12_qDropsToBracket d 0 [(0, .ref x0)] [] h none h' := by
  unfold b_X12_qDropsToBracket_0 at H
  obtain ⟨d, rfl⟩ : ∃ e, d = e + 1 := ⟨d - 1, by omega⟩
  refine x_aload_n dX12_qDropsToBracket_0 rfl 0 rfl ?_
  obtain ⟨c1, H⟩ := ko_o H
  refine x_getI fr_X12_309 dX12_qDropsToBracket_1 c1 rfl ?_
  refine x_aload_n dX12_qDropsToBracket_4 rfl 0 rfl ?_
  refine x_getI fr_X12_315 dX12_qDropsToBracket_5 c1 rfl ?_
  refine x_icmp_le (tgt := 35) dX12_qDropsToBracket_8 (by decide) (fun c2 => ?_) (fun c2 => ?_)
  · replace H := ite_p H c2
    refine Ex.sub [] rfl ?_
    exact t_X12_qDropsToBracket_35 hd H
  · replace H := ite_m H c2
    refine x_aload_n dX12_qDropsToBracket_11 rfl 0 rfl ?_
    obtain ⟨a3, c4, H⟩ := kr_o H
    refine x_getR fr_X12_213 dX12_qDropsToBracket_12 c1 rfl c4 ?_
    refine x_aload_n dX12_qDropsToBracket_15 rfl 0 rfl ?_
    refine x_getI fr_X12_309 dX12_qDropsToBracket_16 c1 rfl ?_
    refine x_iconst (v := 1) dX12_qDropsToBracket_19 (by decide) ?_
    refine x_isub dX12_qDropsToBracket_20 ?_
    obtain ⟨n6, c5, H⟩ := ka_o H
    obtain ⟨c7, H⟩ := chk_o H
    refine x_iald dX12_qDropsToBracket_21 c5 (inb_in.mp c7) ?_
    obtain ⟨v8, h9, hc10, H⟩ := bd_o H
    refine x_callSi (As := [.int (hI h a3 ((hI h x0 94) - 1 : Int32).toNatClampNeg)]) dX12_qDropsToBracket_22 mi_X12_qIsBracket lk_X12_578 sm_X12_qIsBracket rfl rfl (Nat.le_of_ble_eq_true rfl) (t_X12_qIsBracket (by omega) hc10) ?_
    refine x_if_ne (tgt := 35) dX12_qDropsToBracket_25 (by decide) (fun c11 => ?_) (fun c11 => ?_)
    · replace H := ite_m H c11
      refine Ex.sub [] rfl ?_
      exact t_X12_qDropsToBracket_35 hd H
    · replace H := ite_p H c11
      refine x_aload_n dX12_qDropsToBracket_28 rfl 0 rfl ?_
      obtain ⟨c15, H⟩ := ko_o H
      obtain ⟨v12, h13, hc14, H⟩ := bd_o H
      refine x_callVv (As := []) (q := (RX12, TX12, 103)) dX12_qDropsToBracket_29 mi_X12_qDrops lk_X12_581 im_X12_qDrops se_X12_qDrops rfl c15 rfl rfl (Nat.le_of_ble_eq_true rfl) (t_X12_qDrops (by omega) hc14) ?_
      refine x_goto (tgt := 0) dX12_qDropsToBracket_32 (by decide) ?_
      exact hk0 H
def f_X12_qDropsToBracket_0 : Nat → Nat → aH → Option (Unit × aH)
  | 0 => fun _ _ => none
  | n + 1 => b_X12_qDropsToBracket_0 (f_X12_qDropsToBracket_0 n)
set_option maxRecDepth 100000 in
set_option maxHeartbeats 4000000 in
theorem t_X12_qDropsToBracket_0 {Γ : gS} {d : Nat} (hd : 2 ≤ d) (n : Nat) : ∀ {x0 : Nat} {h : aH} {r : Unit} {h' : aH}, f_X12_qDropsToBracket_0 n x0 h = some (r, h') → Ex Γ gX12_qDropsToBracket d 0 [(0, .ref x0)] [] h none h' := by
  induction n with
  | zero => intro x0 h r h' H; cases H
  | succ n ih => intro x0 h r h' H; exact tb_X12_qDropsToBracket_0 hd ih H
def f_X12_qDropsToBracket (x0 : Nat) (h : aH) : Option (Unit × aH) :=
  f_X12_qDropsToBracket_0 FU x0 h
set_option maxRecDepth 100000 in
set_option maxHeartbeats 4000000 in
theorem t_X12_qDropsToBracket {Γ : gS} {d : Nat} (hd : 2 ≤ d) {x0 : Nat} {h : aH} {r : Unit} {h' : aH} (H : f_X12_qDropsToBracket x0 h = some (r, h')) : Mx Γ gX12_qDropsToBracket d [.ref x0] h none h' := by
  refine Mx.of (by decide +kernel) (Nat.le_of_ble_eq_true rfl) ?_
  unfold f_X12_qDropsToBracket at H
  show Ex Γ gX12_qDropsToBracket d 0 [(0, .ref x0)] [] h none h'
  obtain ⟨d, rfl⟩ : ∃ e, d = e + 1 := ⟨d - 1, by omega⟩
  exact t_X12_qDropsToBracket_0 hd FU H
def f_X12_qEndsPart_51 (h : aH) : Option (Unit × aH) :=
  some ((), h)
set_option maxRecDepth 100000 in
set_option maxHeartbeats 4000000 in
theorem t_X12_qEndsPart_51 {Γ : gS} {d : Nat} (hd : 2 ≤ d) {h : aH} {r : Unit} {h' : aH} (H : f_X12_qEndsPart_51 h = some (r, h')) : Ex Γ gX12_qEndsPart d 51 [] [] h none h' := by
  unfold f_X12_qEndsPart_51 at H
  obtain ⟨d, rfl⟩ : ∃ e, d = e + 1 := ⟨d - 1, by omega⟩
  obtain ⟨-, rfl⟩ := so_1 H
  exact x_vret dX12_qEndsPart_51 rfl
def b_X12_qEndsPart_0 (k0 : Nat → aH → Option (Unit × aH)) (x0 : Nat) (h : aH) : Option (Unit × aH) :=
  ko h x0 11 <|
  if (hI h x0 5) = 0 then
    if (hI h x0 94) ≤ (hI h x0 96) then
      f_X12_qEndsPart_51 h
    else
      kr (hR h x0 93) fun a4 =>
      ka h a4 .int fun n7 =>
      chk (inb ((hI h x0 94) - 1) n7 = true) <|
      if (hI h a4 ((hI h x0 94) - 1 : Int32).toNatClampNeg) < 60 then
        f_X12_qEndsPart_51 h
      else
        bd (f_X12_qDrops x0 (sI h x0 95 ((hI h x0 95) - 1))) fun _ h11 =>
        k0 x0 h11
  else
    f_X12_qEndsPart_51 h
set_option maxRecDepth 100000 in
set_option maxHeartbeats 4000000 in
theorem tb_X12_qEndsPart_0 {Γ : gS} {d : Nat} (hd : 2 ≤ d) {k0 : Nat → aH → Option (Unit × aH)} (hk0 : ∀ {x0 : Nat} {h : aH} {r : Unit} {h' : aH}, k0 x0 h = some (r, h') → Ex Γ gX12_qEndsPart d 0 [(0, .ref x0)] [] h none h') {x0 : Nat} {h : aH} {r : Unit} {h' : aH} (H : b_X12_qEndsPart_0 k0 x0 h = some (r, h')) : Ex Γ gX12_qEndsPart d 0 [(0, .ref x0)] [] h none h' := by
  unfold b_X12_qEndsPart_0 at H
  obtain ⟨d, rfl⟩ : ∃ e, d = e + 1 := ⟨d - 1, by omega⟩
  refine x_aload_n dX12_qEndsPart_0 rfl 0 rfl ?_
  obtain ⟨c1, H⟩ := ko_o H
  refine x_getI fr_X12_225 dX12_qEndsPart_1 c1 rfl ?_
  refine x_if_ne (tgt := 51) dX12_qEndsPart_4 (by decide) (fun c2 => ?_) (fun c2 => ?_)
  · replace H := ite_m H c2
    refine Ex.sub [] rfl ?_
    exact t_X12_qEndsPart_51 hd H
  · replace H := ite_p H c2
    refine x_aload_n dX12_qEndsPart_7 rfl 0 rfl ?_
    refine x_getI fr_X12_309 dX12_qEndsPart_8 c1 rfl ?_
    refine x_aload_n dX12_qEndsPart_11 rfl 0 rfl ?_
    refine x_getI fr_X12_315 dX12_qEndsPart_12 c1 rfl ?_
    refine x_icmp_le (tgt := 51) dX12_qEndsPart_15 (by decide) (fun c3 => ?_) (fun c3 => ?_)
    · replace H := ite_p H c3
      refine Ex.sub [] rfl ?_
      exact t_X12_qEndsPart_51 hd H
    · replace H := ite_m H c3
      refine x_aload_n dX12_qEndsPart_18 rfl 0 rfl ?_
      obtain ⟨a4, c5, H⟩ := kr_o H
      refine x_getR fr_X12_213 dX12_qEndsPart_19 c1 rfl c5 ?_
      refine x_aload_n dX12_qEndsPart_22 rfl 0 rfl ?_
      refine x_getI fr_X12_309 dX12_qEndsPart_23 c1 rfl ?_
      refine x_iconst (v := 1) dX12_qEndsPart_26 (by decide) ?_
      refine x_isub dX12_qEndsPart_27 ?_
      obtain ⟨n7, c6, H⟩ := ka_o H
      obtain ⟨c8, H⟩ := chk_o H
      refine x_iald dX12_qEndsPart_28 c6 (inb_in.mp c8) ?_
      refine x_bipush (v := 60) dX12_qEndsPart_29 (by decide) ?_
      refine x_icmp_lt (tgt := 51) dX12_qEndsPart_31 (by decide) (fun c9 => ?_) (fun c9 => ?_)
      · replace H := ite_p H c9
        refine Ex.sub [] rfl ?_
        exact t_X12_qEndsPart_51 hd H
      · replace H := ite_m H c9
        refine x_aload_n dX12_qEndsPart_34 rfl 0 rfl ?_
        refine x_dup dX12_qEndsPart_35 rfl ?_
        refine x_getI fr_X12_312 dX12_qEndsPart_36 c1 rfl ?_
        refine x_iconst (v := 1) dX12_qEndsPart_39 (by decide) ?_
        refine x_isub dX12_qEndsPart_40 ?_
        refine x_putI fl_X12_312 dX12_qEndsPart_41 c1 (fun e => by cases e) rfl ?_
        refine x_aload_n dX12_qEndsPart_44 rfl 0 rfl ?_
        obtain ⟨v10, h11, hc12, H⟩ := bd_o H
        refine x_callVv (As := []) (q := (RX12, TX12, 103)) dX12_qEndsPart_45 mi_X12_qDrops lk_X12_581 im_X12_qDrops se_X12_qDrops rfl c1 rfl rfl (Nat.le_of_ble_eq_true rfl) (t_X12_qDrops (by omega) hc12) ?_
        refine x_goto (tgt := 0) dX12_qEndsPart_48 (by decide) ?_
        exact hk0 H
def f_X12_qEndsPart_0 : Nat → Nat → aH → Option (Unit × aH)
  | 0 => fun _ _ => none
  | n + 1 => b_X12_qEndsPart_0 (f_X12_qEndsPart_0 n)
set_option maxRecDepth 100000 in
set_option maxHeartbeats 4000000 in
theorem t_X12_qEndsPart_0 {Γ : gS} {d : Nat} (hd : 2 ≤ d) (n : Nat) : ∀ {x0 : Nat} {h : aH} {r : Unit} {h' : aH}, f_X12_qEndsPart_0 n x0 h = some (r, h') → Ex Γ gX12_qEndsPart d 0 [(0, .ref x0)] [] h none h' := by
  induction n with
  | zero => intro x0 h r h' H; cases H
  | succ n ih => intro x0 h r h' H; exact tb_X12_qEndsPart_0 hd ih H
def f_X12_qEndsPart (x0 : Nat) (h : aH) : Option (Unit × aH) :=
  f_X12_qEndsPart_0 FU x0 h
set_option maxRecDepth 100000 in
set_option maxHeartbeats 4000000 in
theorem t_X12_qEndsPart {Γ : gS} {d : Nat} (hd : 2 ≤ d) {x0 : Nat} {h : aH} {r : Unit} {h' : aH} (H : f_X12_qEndsPart x0 h = some (r, h')) : Mx Γ gX12_qEndsPart d [.ref x0] h none h' := by
  refine Mx.of (by decide +kernel) (Nat.le_of_ble_eq_true rfl) ?_
  unfold f_X12_qEndsPart at H
  show Ex Γ gX12_qEndsPart d 0 [(0, .ref x0)] [] h none h'
  obtain ⟨d, rfl⟩ : ∃ e, d = e + 1 := ⟨d - 1, by omega⟩
  exact t_X12_qEndsPart_0 hd FU H
def f_X12_qIsOn_27 (s0 : Int32) (h : aH) : Option (Int32 × aH) :=
  chk (narrow .boolean (.int s0) = .int s0) <|
  some (s0, h)
set_option maxRecDepth 100000 in
set_option maxHeartbeats 4000000 in
theorem t_X12_qIsOn_27 {Γ : gS} {d : Nat} (hd : 0 ≤ d) {s0 : Int32} {h : aH} {r : Int32} {h' : aH} (H : f_X12_qIsOn_27 s0 h = some (r, h')) : Ex Γ gX12_qIsOn d 27 [] [.int s0] h (some (.int r)) h' := by
  unfold f_X12_qIsOn_27 at H
  obtain ⟨c1, H⟩ := chk_o H
  obtain ⟨rfl, rfl⟩ := so_1 H
  exact x_iret dX12_qIsOn_27 rfl c1
def f_X12_qIsOn_26 (h : aH) : Option (Int32 × aH) :=
  f_X12_qIsOn_27 0 h
set_option maxRecDepth 100000 in
set_option maxHeartbeats 4000000 in
theorem t_X12_qIsOn_26 {Γ : gS} {d : Nat} (hd : 0 ≤ d) {h : aH} {r : Int32} {h' : aH} (H : f_X12_qIsOn_26 h = some (r, h')) : Ex Γ gX12_qIsOn d 26 [] [] h (some (.int r)) h' := by
  unfold f_X12_qIsOn_26 at H
  refine x_iconst (v := 0) dX12_qIsOn_26 (by decide) ?_
  exact t_X12_qIsOn_27 hd H
def f_X12_qIsOn (x0 : Nat) (x1 : Int32) (h : aH) : Option (Int32 × aH) :=
  ko h x0 11 <|
  if (hI h x0 94) ≤ 0 then
    f_X12_qIsOn_26 h
  else
    kr (hR h x0 93) fun a4 =>
    ka h a4 .int fun n7 =>
    chk (inb ((hI h x0 94) - 1) n7 = true) <|
    if (hI h a4 ((hI h x0 94) - 1 : Int32).toNatClampNeg) = x1 then
      f_X12_qIsOn_27 1 h
    else
      f_X12_qIsOn_26 h
set_option maxRecDepth 100000 in
set_option maxHeartbeats 4000000 in
theorem t_X12_qIsOn {Γ : gS} {d : Nat} (hd : 0 ≤ d) {x0 : Nat} {x1 : Int32} {h : aH} {r : Int32} {h' : aH} (H : f_X12_qIsOn x0 x1 h = some (r, h')) : Mx Γ gX12_qIsOn d [.ref x0, .int x1] h (some (.int r)) h' := by
  refine Mx.of (by decide +kernel) (Nat.le_of_ble_eq_true rfl) ?_
  unfold f_X12_qIsOn at H
  show Ex Γ gX12_qIsOn d 0 [(0, .ref x0), (1, .int x1)] [] h (some (.int r)) h'
  refine x_aload_n dX12_qIsOn_0 rfl 0 rfl ?_
  obtain ⟨c2, H⟩ := ko_o H
  refine x_getI fr_X12_309 dX12_qIsOn_1 c2 rfl ?_
  refine x_if_le (tgt := 26) dX12_qIsOn_4 (by decide) (fun c3 => ?_) (fun c3 => ?_)
  · replace H := ite_p H c3
    refine Ex.sub [] rfl ?_
    exact t_X12_qIsOn_26 hd H
  · replace H := ite_m H c3
    refine x_aload_n dX12_qIsOn_7 rfl 0 rfl ?_
    obtain ⟨a4, c5, H⟩ := kr_o H
    refine x_getR fr_X12_213 dX12_qIsOn_8 c2 rfl c5 ?_
    refine x_aload_n dX12_qIsOn_11 rfl 0 rfl ?_
    refine x_getI fr_X12_309 dX12_qIsOn_12 c2 rfl ?_
    refine x_iconst (v := 1) dX12_qIsOn_15 (by decide) ?_
    refine x_isub dX12_qIsOn_16 ?_
    obtain ⟨n7, c6, H⟩ := ka_o H
    obtain ⟨c8, H⟩ := chk_o H
    refine x_iald dX12_qIsOn_17 c6 (inb_in.mp c8) ?_
    refine x_iload_n dX12_qIsOn_18 rfl 1 rfl ?_
    refine x_icmp_ne (tgt := 26) dX12_qIsOn_19 (by decide) (fun c9 => ?_) (fun c9 => ?_)
    · replace H := ite_m H c9
      refine Ex.sub [] rfl ?_
      exact t_X12_qIsOn_26 hd H
    · replace H := ite_p H c9
      refine x_iconst (v := 1) dX12_qIsOn_22 (by decide) ?_
      refine x_goto (tgt := 27) dX12_qIsOn_23 (by decide) ?_
      refine Ex.sub [] rfl ?_
      exact t_X12_qIsOn_27 hd H
def f_X12_qGoesOn_115 (k0 : Nat → aH → Option (Int32 × aH)) (x0 : Nat) (h : aH) : Option (Int32 × aH) :=
  ko h x0 11 <|
  bd (f_X12_qEndsPart x0 h) fun _ h2 =>
  k0 x0 h2
set_option maxRecDepth 100000 in
set_option maxHeartbeats 4000000 in
theorem t_X12_qGoesOn_115 {Γ : gS} {d : Nat} (hd : 3 ≤ d) {k0 : Nat → aH → Option (Int32 × aH)} (hk0 : ∀ {x0 : Nat} {h : aH} {r : Int32} {h' : aH}, k0 x0 h = some (r, h') → Ex Γ gX12_qGoesOn d 0 [(0, .ref x0)] [] h (some (.int r)) h') {x0 : Nat} {h : aH} {r : Int32} {h' : aH} (H : f_X12_qGoesOn_115 k0 x0 h = some (r, h')) : Ex Γ gX12_qGoesOn d 115 [(0, .ref x0)] [] h (some (.int r)) h' := by
  unfold f_X12_qGoesOn_115 at H
  obtain ⟨d, rfl⟩ : ∃ e, d = e + 1 := ⟨d - 1, by omega⟩
  refine x_aload_n dX12_qGoesOn_115 rfl 0 rfl ?_
  obtain ⟨c4, H⟩ := ko_o H
  obtain ⟨v1, h2, hc3, H⟩ := bd_o H
  refine x_callVv (As := []) (q := (RX12, TX12, 103)) dX12_qGoesOn_116 mi_X12_qEndsPart lk_X12_599 im_X12_qEndsPart se_X12_qEndsPart rfl c4 rfl rfl (Nat.le_of_ble_eq_true rfl) (t_X12_qEndsPart (by omega) hc3) ?_
  refine x_goto (tgt := 0) dX12_qGoesOn_119 (by decide) ?_
  exact hk0 H
def f_X12_qGoesOn_112 (k0 : Nat → aH → Option (Int32 × aH)) (x0 : Nat) (s0 : Nat) (s1 : Int32) (h : aH) : Option (Int32 × aH) :=
  ko h s0 11 <|
  bd (f_X12_qCode s0 s1 h) fun _ h6 =>
  f_X12_qGoesOn_115 k0 x0 h6
set_option maxRecDepth 100000 in
set_option maxHeartbeats 4000000 in
theorem t_X12_qGoesOn_112 {Γ : gS} {d : Nat} (hd : 3 ≤ d) {k0 : Nat → aH → Option (Int32 × aH)} (hk0 : ∀ {x0 : Nat} {h : aH} {r : Int32} {h' : aH}, k0 x0 h = some (r, h') → Ex Γ gX12_qGoesOn d 0 [(0, .ref x0)] [] h (some (.int r)) h') {x0 : Nat} {s0 : Nat} {s1 : Int32} {h : aH} {r : Int32} {h' : aH} (H : f_X12_qGoesOn_112 k0 x0 s0 s1 h = some (r, h')) : Ex Γ gX12_qGoesOn d 112 [(0, .ref x0)] [.int s1, .ref s0] h (some (.int r)) h' := by
  unfold f_X12_qGoesOn_112 at H
  obtain ⟨d, rfl⟩ : ∃ e, d = e + 1 := ⟨d - 1, by omega⟩
  obtain ⟨c8, H⟩ := ko_o H
  obtain ⟨v5, h6, hc7, H⟩ := bd_o H
  refine x_callVv (As := [.int s1]) (q := (RX12, TX12, 103)) dX12_qGoesOn_112 mi_X12_qCode lk_X12_575 im_X12_qCode se_X12_qCode rfl c8 rfl rfl (Nat.le_of_ble_eq_true rfl) (t_X12_qCode (by omega) hc7) ?_
  exact t_X12_qGoesOn_115 hd hk0 H
def f_X12_qGoesOn_43 (k0 : Nat → aH → Option (Int32 × aH)) (x0 : Nat) (h : aH) : Option (Int32 × aH) :=
  ko h x0 11 <|
  bd (f_X12_qDropsToBracket x0 (sI h x0 2 ((hI h x0 2) + 1))) fun _ h11 =>
  ko h11 x0 11 <|
  nm (hI (sI h11 x0 94 ((hI h11 x0 94) - 1)) x0 95) fun (v14 : Int32) =>
  kr (hR h11 x0 93) fun a15 =>
  nm (hI (sI (sI h11 x0 94 ((hI h11 x0 94) - 1)) x0 95 (v14 - 1)) x0 94) fun (v17 : Int32) =>
  ka h11 a15 .int fun n19 =>
  chk (inb v17 n19 = true) <|
  nm (hI (sI (sI h11 x0 94 ((hI h11 x0 94) - 1)) x0 95 (v14 - 1)) a15 v17.toNatClampNeg) fun (v21 : Int32) =>
  if v21 = 20 then
    f_X12_qGoesOn_115 k0 x0 (sI (sI h11 x0 94 ((hI h11 x0 94) - 1)) x0 95 (v14 - 1))
  else
    nm (hI (sI (sI h11 x0 94 ((hI h11 x0 94) - 1)) x0 95 (v14 - 1)) x0 94) fun (v23 : Int32) =>
    chk (inb v23 n19 = true) <|
    nm (hI (sI (sI h11 x0 94 ((hI h11 x0 94) - 1)) x0 95 (v14 - 1)) a15 v23.toNatClampNeg) fun (v25 : Int32) =>
    if v25 = 23 then
      f_X12_qGoesOn_112 k0 x0 x0 5 (sI (sI h11 x0 94 ((hI h11 x0 94) - 1)) x0 95 (v14 - 1))
    else
      f_X12_qGoesOn_112 k0 x0 x0 6 (sI (sI h11 x0 94 ((hI h11 x0 94) - 1)) x0 95 (v14 - 1))
set_option maxRecDepth 100000 in
set_option maxHeartbeats 4000000 in
theorem t_X12_qGoesOn_43 {Γ : gS} {d : Nat} (hd : 3 ≤ d) {k0 : Nat → aH → Option (Int32 × aH)} (hk0 : ∀ {x0 : Nat} {h : aH} {r : Int32} {h' : aH}, k0 x0 h = some (r, h') → Ex Γ gX12_qGoesOn d 0 [(0, .ref x0)] [] h (some (.int r)) h') {x0 : Nat} {h : aH} {r : Int32} {h' : aH} (H : f_X12_qGoesOn_43 k0 x0 h = some (r, h')) : Ex Γ gX12_qGoesOn d 43 [(0, .ref x0)] [] h (some (.int r)) h' := by
  unfold f_X12_qGoesOn_43 at H
  obtain ⟨d, rfl⟩ : ∃ e, d = e + 1 := ⟨d - 1, by omega⟩
  refine x_aload_n dX12_qGoesOn_43 rfl 0 rfl ?_
  refine x_dup dX12_qGoesOn_44 rfl ?_
  obtain ⟨c9, H⟩ := ko_o H
  refine x_getI fr_X12_231 dX12_qGoesOn_45 c9 rfl ?_
  refine x_iconst (v := 1) dX12_qGoesOn_48 (by decide) ?_
  refine x_iadd dX12_qGoesOn_49 ?_
  refine x_putI fl_X12_231 dX12_qGoesOn_50 c9 (fun e => by cases e) rfl ?_
  refine x_aload_n dX12_qGoesOn_53 rfl 0 rfl ?_
  obtain ⟨v10, h11, hc12, H⟩ := bd_o H
  refine x_callVv (As := []) (q := (RX12, TX12, 103)) dX12_qGoesOn_54 mi_X12_qDropsToBracket lk_X12_605 im_X12_qDropsToBracket se_X12_qDropsToBracket rfl c9 rfl rfl (Nat.le_of_ble_eq_true rfl) (t_X12_qDropsToBracket (by omega) hc12) ?_
  refine x_aload_n dX12_qGoesOn_57 rfl 0 rfl ?_
  refine x_dup dX12_qGoesOn_58 rfl ?_
  obtain ⟨c13, H⟩ := ko_o H
  refine x_getI fr_X12_309 dX12_qGoesOn_59 c13 rfl ?_
  refine x_iconst (v := 1) dX12_qGoesOn_62 (by decide) ?_
  refine x_isub dX12_qGoesOn_63 ?_
  refine x_putI fl_X12_309 dX12_qGoesOn_64 c13 (fun e => by cases e) rfl ?_
  refine x_aload_n dX12_qGoesOn_67 rfl 0 rfl ?_
  refine x_dup dX12_qGoesOn_68 rfl ?_
  obtain ⟨v14, ev14, H⟩ := nm_o H
  refine x_getIe fr_X12_312 dX12_qGoesOn_69 c13 rfl ev14 ?_
  refine x_iconst (v := 1) dX12_qGoesOn_72 (by decide) ?_
  refine x_isub dX12_qGoesOn_73 ?_
  refine x_putI fl_X12_312 dX12_qGoesOn_74 c13 (fun e => by cases e) rfl ?_
  refine x_aload_n dX12_qGoesOn_77 rfl 0 rfl ?_
  obtain ⟨a15, c16, H⟩ := kr_o H
  refine x_getR fr_X12_213 dX12_qGoesOn_78 c13 rfl c16 ?_
  refine x_aload_n dX12_qGoesOn_81 rfl 0 rfl ?_
  obtain ⟨v17, ev17, H⟩ := nm_o H
  refine x_getIe fr_X12_309 dX12_qGoesOn_82 c13 rfl ev17 ?_
  obtain ⟨n19, c18, H⟩ := ka_o H
  obtain ⟨c20, H⟩ := chk_o H
  obtain ⟨v21, ev21, H⟩ := nm_o H
  refine x_ialde dX12_qGoesOn_85 c18 (inb_in.mp c20) ev21 ?_
  refine x_bipush (v := 20) dX12_qGoesOn_86 (by decide) ?_
  refine x_icmp_eq (tgt := 115) dX12_qGoesOn_88 (by decide) (fun c22 => ?_) (fun c22 => ?_)
  · replace H := ite_p H c22
    exact t_X12_qGoesOn_115 hd hk0 H
  · replace H := ite_m H c22
    refine x_aload_n dX12_qGoesOn_91 rfl 0 rfl ?_
    refine x_aload_n dX12_qGoesOn_92 rfl 0 rfl ?_
    refine x_getR fr_X12_213 dX12_qGoesOn_93 c13 rfl c16 ?_
    refine x_aload_n dX12_qGoesOn_96 rfl 0 rfl ?_
    obtain ⟨v23, ev23, H⟩ := nm_o H
    refine x_getIe fr_X12_309 dX12_qGoesOn_97 c13 rfl ev23 ?_
    obtain ⟨c24, H⟩ := chk_o H
    obtain ⟨v25, ev25, H⟩ := nm_o H
    refine x_ialde dX12_qGoesOn_100 c18 (inb_in.mp c24) ev25 ?_
    refine x_bipush (v := 23) dX12_qGoesOn_101 (by decide) ?_
    refine x_icmp_ne (tgt := 110) dX12_qGoesOn_103 (by decide) (fun c26 => ?_) (fun c26 => ?_)
    · replace H := ite_m H c26
      refine x_bipush (v := 6) dX12_qGoesOn_110 (by decide) ?_
      exact t_X12_qGoesOn_112 hd hk0 H
    · replace H := ite_p H c26
      refine x_iconst (v := 5) dX12_qGoesOn_106 (by decide) ?_
      refine x_goto (tgt := 112) dX12_qGoesOn_107 (by decide) ?_
      exact t_X12_qGoesOn_112 hd hk0 H
def f_X12_qGoesOn_178 (k162 : Nat → Int32 → aH → Option (Int32 × aH)) (x0 : Nat) (x1 : Int32) (h : aH) : Option (Int32 × aH) :=
  ko h x0 11 <|
  bd (f_X12_qDrops x0 h) fun _ h28 =>
  k162 x0 x1 h28
set_option maxRecDepth 100000 in
set_option maxHeartbeats 4000000 in
theorem t_X12_qGoesOn_178 {Γ : gS} {d : Nat} (hd : 3 ≤ d) {k162 : Nat → Int32 → aH → Option (Int32 × aH)} (hk162 : ∀ {x0 : Nat} {x1 : Int32} {h : aH} {r : Int32} {h' : aH}, k162 x0 x1 h = some (r, h') → Ex Γ gX12_qGoesOn d 162 [(0, .ref x0), (1, .int x1)] [] h (some (.int r)) h') {x0 : Nat} {x1 : Int32} {h : aH} {r : Int32} {h' : aH} (H : f_X12_qGoesOn_178 k162 x0 x1 h = some (r, h')) : Ex Γ gX12_qGoesOn d 178 [(0, .ref x0), (1, .int x1)] [] h (some (.int r)) h' := by
  unfold f_X12_qGoesOn_178 at H
  obtain ⟨d, rfl⟩ : ∃ e, d = e + 1 := ⟨d - 1, by omega⟩
  refine x_aload_n dX12_qGoesOn_178 rfl 0 rfl ?_
  obtain ⟨c30, H⟩ := ko_o H
  obtain ⟨v27, h28, hc29, H⟩ := bd_o H
  refine x_callVv (As := []) (q := (RX12, TX12, 103)) dX12_qGoesOn_179 mi_X12_qDrops lk_X12_581 im_X12_qDrops se_X12_qDrops rfl c30 rfl rfl (Nat.le_of_ble_eq_true rfl) (t_X12_qDrops (by omega) hc29) ?_
  refine x_goto (tgt := 162) dX12_qGoesOn_182 (by decide) ?_
  exact hk162 H
def b_X12_qGoesOn_162 (k162 : Nat → Int32 → aH → Option (Int32 × aH)) (x0 : Nat) (x1 : Int32) (h : aH) : Option (Int32 × aH) :=
  ko h x0 11 <|
  bd (f_X12_qIsOn x0 3 h) fun v31 h32 =>
  if v31 = 0 then
    ko h32 x0 11 <|
    bd (f_X12_qIsOn x0 4 h32) fun v35 h36 =>
    if v35 = 0 then
      ko h36 x0 11 <|
      kr (hR h36 x0 93) fun a40 =>
      ka h36 a40 .int fun n43 =>
      chk (inb (hI h36 x0 94) n43 = true) <|
      nm (hI (sI h36 a40 (hI h36 x0 94 : Int32).toNatClampNeg x1) x0 94) fun (v45 : Int32) =>
      some (1, sI (sI h36 a40 (hI h36 x0 94 : Int32).toNatClampNeg x1) x0 94 (v45 + 1))
    else
      f_X12_qGoesOn_178 k162 x0 x1 h36
  else
    f_X12_qGoesOn_178 k162 x0 x1 h32
set_option maxRecDepth 100000 in
set_option maxHeartbeats 4000000 in
theorem tb_X12_qGoesOn_162 {Γ : gS} {d : Nat} (hd : 3 ≤ d) {k162 : Nat → Int32 → aH → Option (Int32 × aH)} (hk162 : ∀ {x0 : Nat} {x1 : Int32} {h : aH} {r : Int32} {h' : aH}, k162 x0 x1 h = some (r, h') → Ex Γ gX12_qGoesOn d 162 [(0, .ref x0), (1, .int x1)] [] h (some (.int r)) h') {x0 : Nat} {x1 : Int32} {h : aH} {r : Int32} {h' : aH} (H : b_X12_qGoesOn_162 k162 x0 x1 h = some (r, h')) : Ex Γ gX12_qGoesOn d 162 [(0, .ref x0), (1, .int x1)] [] h (some (.int r)) h' := by
  unfold b_X12_qGoesOn_162 at H
  obtain ⟨d, rfl⟩ : ∃ e, d = e + 1 := ⟨d - 1, by omega⟩
  refine x_aload_n dX12_qGoesOn_162 rfl 0 rfl ?_
  refine x_iconst (v := 3) dX12_qGoesOn_163 (by decide) ?_
  obtain ⟨c47, H⟩ := ko_o H
  obtain ⟨v31, h32, hc33, H⟩ := bd_o H
  refine x_callVi (As := [.int 3]) (q := (RX12, TX12, 103)) dX12_qGoesOn_164 mi_X12_qIsOn lk_X12_608 im_X12_qIsOn se_X12_qIsOn rfl c47 rfl rfl (Nat.le_of_ble_eq_true rfl) (t_X12_qIsOn (by omega) hc33) ?_
  refine x_if_ne (tgt := 178) dX12_qGoesOn_167 (by decide) (fun c34 => ?_) (fun c34 => ?_)
  · replace H := ite_m H c34
    exact t_X12_qGoesOn_178 hd hk162 H
  · replace H := ite_p H c34
    refine x_aload_n dX12_qGoesOn_170 rfl 0 rfl ?_
    refine x_iconst (v := 4) dX12_qGoesOn_171 (by decide) ?_
    obtain ⟨c46, H⟩ := ko_o H
    obtain ⟨v35, h36, hc37, H⟩ := bd_o H
    refine x_callVi (As := [.int 4]) (q := (RX12, TX12, 103)) dX12_qGoesOn_172 mi_X12_qIsOn lk_X12_608 im_X12_qIsOn se_X12_qIsOn rfl c46 rfl rfl (Nat.le_of_ble_eq_true rfl) (t_X12_qIsOn (by omega) hc37) ?_
    refine x_if_eq (tgt := 185) dX12_qGoesOn_175 (by decide) (fun c38 => ?_) (fun c38 => ?_)
    · replace H := ite_p H c38
      refine x_aload_n dX12_qGoesOn_185 rfl 0 rfl ?_
      obtain ⟨c39, H⟩ := ko_o H
      obtain ⟨a40, c41, H⟩ := kr_o H
      refine x_getR fr_X12_213 dX12_qGoesOn_186 c39 rfl c41 ?_
      refine x_aload_n dX12_qGoesOn_189 rfl 0 rfl ?_
      refine x_getI fr_X12_309 dX12_qGoesOn_190 c39 rfl ?_
      refine x_iload_n dX12_qGoesOn_193 rfl 1 rfl ?_
      obtain ⟨n43, c42, H⟩ := ka_o H
      obtain ⟨c44, H⟩ := chk_o H
      refine x_iast dX12_qGoesOn_194 c42 (inb_in.mp c44) ?_
      refine x_aload_n dX12_qGoesOn_195 rfl 0 rfl ?_
      refine x_dup dX12_qGoesOn_196 rfl ?_
      obtain ⟨v45, ev45, H⟩ := nm_o H
      refine x_getIe fr_X12_309 dX12_qGoesOn_197 c39 rfl ev45 ?_
      refine x_iconst (v := 1) dX12_qGoesOn_200 (by decide) ?_
      refine x_iadd dX12_qGoesOn_201 ?_
      refine x_putI fl_X12_309 dX12_qGoesOn_202 c39 (fun e => by cases e) rfl ?_
      refine x_iconst (v := 1) dX12_qGoesOn_205 (by decide) ?_
      obtain ⟨rfl, rfl⟩ := so_1 H
      exact x_iret dX12_qGoesOn_206 rfl (by decide)
    · replace H := ite_m H c38
      exact t_X12_qGoesOn_178 hd hk162 H
def f_X12_qGoesOn_162 : Nat → Nat → Int32 → aH → Option (Int32 × aH)
  | 0 => fun _ _ _ => none
  | n + 1 => b_X12_qGoesOn_162 (f_X12_qGoesOn_162 n)
set_option maxRecDepth 100000 in
set_option maxHeartbeats 4000000 in
theorem t_X12_qGoesOn_162 {Γ : gS} {d : Nat} (hd : 3 ≤ d) (n : Nat) : ∀ {x0 : Nat} {x1 : Int32} {h : aH} {r : Int32} {h' : aH}, f_X12_qGoesOn_162 n x0 x1 h = some (r, h') → Ex Γ gX12_qGoesOn d 162 [(0, .ref x0), (1, .int x1)] [] h (some (.int r)) h' := by
  induction n with
  | zero => intro x0 x1 h r h' H; cases H
  | succ n ih => intro x0 x1 h r h' H; exact tb_X12_qGoesOn_162 hd ih H
def f_X12_qGoesOn_161 (x0 : Nat) (s0 : Int32) (h : aH) : Option (Int32 × aH) :=
  f_X12_qGoesOn_162 FU x0 s0 h
set_option maxRecDepth 100000 in
set_option maxHeartbeats 4000000 in
theorem t_X12_qGoesOn_161 {Γ : gS} {d : Nat} (hd : 3 ≤ d) {x0 : Nat} {s0 : Int32} {h : aH} {r : Int32} {h' : aH} (H : f_X12_qGoesOn_161 x0 s0 h = some (r, h')) : Ex Γ gX12_qGoesOn d 161 [(0, .ref x0)] [.int s0] h (some (.int r)) h' := by
  unfold f_X12_qGoesOn_161 at H
  obtain ⟨d, rfl⟩ : ∃ e, d = e + 1 := ⟨d - 1, by omega⟩
  refine x_istore_n (lv' := [(1, .int s0), (0, .ref x0)]) dX12_qGoesOn_161 rfl (by decide) rfl rfl ?_
  refine Ex.sub [1, 0] rfl ?_
  exact t_X12_qGoesOn_162 hd FU H
def f_X12_qGoesOn_140 (x0 : Nat) (h : aH) : Option (Int32 × aH) :=
  ko h x0 11 <|
  kr (hR h x0 0) fun a49 =>
  ka h a49 .int fun n52 =>
  chk (inb ((hI h x0 2) - 1) n52 = true) <|
  if (hI h a49 ((hI h x0 2) - 1 : Int32).toNatClampNeg) = 42 then
    f_X12_qGoesOn_161 x0 3 h
  else
    f_X12_qGoesOn_161 x0 4 h
set_option maxRecDepth 100000 in
set_option maxHeartbeats 4000000 in
theorem t_X12_qGoesOn_140 {Γ : gS} {d : Nat} (hd : 3 ≤ d) {x0 : Nat} {h : aH} {r : Int32} {h' : aH} (H : f_X12_qGoesOn_140 x0 h = some (r, h')) : Ex Γ gX12_qGoesOn d 140 [(0, .ref x0)] [] h (some (.int r)) h' := by
  unfold f_X12_qGoesOn_140 at H
  obtain ⟨d, rfl⟩ : ∃ e, d = e + 1 := ⟨d - 1, by omega⟩
  refine x_aload_n dX12_qGoesOn_140 rfl 0 rfl ?_
  obtain ⟨c48, H⟩ := ko_o H
  obtain ⟨a49, c50, H⟩ := kr_o H
  refine x_getR fr_X12_7 dX12_qGoesOn_141 c48 rfl c50 ?_
  refine x_aload_n dX12_qGoesOn_144 rfl 0 rfl ?_
  refine x_getI fr_X12_231 dX12_qGoesOn_145 c48 rfl ?_
  refine x_iconst (v := 1) dX12_qGoesOn_148 (by decide) ?_
  refine x_isub dX12_qGoesOn_149 ?_
  obtain ⟨n52, c51, H⟩ := ka_o H
  obtain ⟨c53, H⟩ := chk_o H
  refine x_iald dX12_qGoesOn_150 c51 (inb_in.mp c53) ?_
  refine x_bipush (v := 42) dX12_qGoesOn_151 (by decide) ?_
  refine x_icmp_ne (tgt := 160) dX12_qGoesOn_153 (by decide) (fun c54 => ?_) (fun c54 => ?_)
  · replace H := ite_m H c54
    refine x_iconst (v := 4) dX12_qGoesOn_160 (by decide) ?_
    exact t_X12_qGoesOn_161 hd H
  · replace H := ite_p H c54
    refine x_iconst (v := 3) dX12_qGoesOn_156 (by decide) ?_
    refine x_goto (tgt := 161) dX12_qGoesOn_157 (by decide) ?_
    exact t_X12_qGoesOn_161 hd H
def f_X12_qGoesOn_279 (k247 : Nat → Int32 → aH → Option (Int32 × aH)) (x0 : Nat) (x1 : Int32) (h : aH) : Option (Int32 × aH) :=
  ko h x0 11 <|
  bd (f_X12_qDrops x0 h) fun _ h56 =>
  k247 x0 x1 h56
set_option maxRecDepth 100000 in
set_option maxHeartbeats 4000000 in
theorem t_X12_qGoesOn_279 {Γ : gS} {d : Nat} (hd : 3 ≤ d) {k247 : Nat → Int32 → aH → Option (Int32 × aH)} (hk247 : ∀ {x0 : Nat} {x1 : Int32} {h : aH} {r : Int32} {h' : aH}, k247 x0 x1 h = some (r, h') → Ex Γ gX12_qGoesOn d 247 [(0, .ref x0), (1, .int x1)] [] h (some (.int r)) h') {x0 : Nat} {x1 : Int32} {h : aH} {r : Int32} {h' : aH} (H : f_X12_qGoesOn_279 k247 x0 x1 h = some (r, h')) : Ex Γ gX12_qGoesOn d 279 [(0, .ref x0), (1, .int x1)] [] h (some (.int r)) h' := by
  unfold f_X12_qGoesOn_279 at H
  obtain ⟨d, rfl⟩ : ∃ e, d = e + 1 := ⟨d - 1, by omega⟩
  refine x_aload_n dX12_qGoesOn_279 rfl 0 rfl ?_
  obtain ⟨c58, H⟩ := ko_o H
  obtain ⟨v55, h56, hc57, H⟩ := bd_o H
  refine x_callVv (As := []) (q := (RX12, TX12, 103)) dX12_qGoesOn_280 mi_X12_qDrops lk_X12_581 im_X12_qDrops se_X12_qDrops rfl c58 rfl rfl (Nat.le_of_ble_eq_true rfl) (t_X12_qDrops (by omega) hc57) ?_
  refine x_goto (tgt := 247) dX12_qGoesOn_283 (by decide) ?_
  exact hk247 H
def b_X12_qGoesOn_247 (k247 : Nat → Int32 → aH → Option (Int32 × aH)) (x0 : Nat) (x1 : Int32) (h : aH) : Option (Int32 × aH) :=
  ko h x0 11 <|
  bd (f_X12_qIsOn x0 3 h) fun v59 h60 =>
  if v59 = 0 then
    ko h60 x0 11 <|
    bd (f_X12_qIsOn x0 4 h60) fun v63 h64 =>
    if v63 = 0 then
      ko h64 x0 11 <|
      bd (f_X12_qIsOn x0 1 h64) fun v67 h68 =>
      if v67 = 0 then
        ko h68 x0 11 <|
        bd (f_X12_qIsOn x0 2 h68) fun v71 h72 =>
        if v71 = 0 then
          ko h72 x0 11 <|
          kr (hR h72 x0 93) fun a76 =>
          ka h72 a76 .int fun n79 =>
          chk (inb (hI h72 x0 94) n79 = true) <|
          nm (hI (sI h72 a76 (hI h72 x0 94 : Int32).toNatClampNeg x1) x0 94) fun (v81 : Int32) =>
          some (1, sI (sI h72 a76 (hI h72 x0 94 : Int32).toNatClampNeg x1) x0 94 (v81 + 1))
        else
          f_X12_qGoesOn_279 k247 x0 x1 h72
      else
        f_X12_qGoesOn_279 k247 x0 x1 h68
    else
      f_X12_qGoesOn_279 k247 x0 x1 h64
  else
    f_X12_qGoesOn_279 k247 x0 x1 h60
set_option maxRecDepth 100000 in
set_option maxHeartbeats 4000000 in
theorem tb_X12_qGoesOn_247 {Γ : gS} {d : Nat} (hd : 3 ≤ d) {k247 : Nat → Int32 → aH → Option (Int32 × aH)} (hk247 : ∀ {x0 : Nat} {x1 : Int32} {h : aH} {r : Int32} {h' : aH}, k247 x0 x1 h = some (r, h') → Ex Γ gX12_qGoesOn d 247 [(0, .ref x0), (1, .int x1)] [] h (some (.int r)) h') {x0 : Nat} {x1 : Int32} {h : aH} {r : Int32} {h' : aH} (H : b_X12_qGoesOn_247 k247 x0 x1 h = some (r, h')) : Ex Γ gX12_qGoesOn d 247 [(0, .ref x0), (1, .int x1)] [] h (some (.int r)) h' := by
  unfold b_X12_qGoesOn_247 at H
  obtain ⟨d, rfl⟩ : ∃ e, d = e + 1 := ⟨d - 1, by omega⟩
  refine x_aload_n dX12_qGoesOn_247 rfl 0 rfl ?_
  refine x_iconst (v := 3) dX12_qGoesOn_248 (by decide) ?_
  obtain ⟨c85, H⟩ := ko_o H
  obtain ⟨v59, h60, hc61, H⟩ := bd_o H
  refine x_callVi (As := [.int 3]) (q := (RX12, TX12, 103)) dX12_qGoesOn_249 mi_X12_qIsOn lk_X12_608 im_X12_qIsOn se_X12_qIsOn rfl c85 rfl rfl (Nat.le_of_ble_eq_true rfl) (t_X12_qIsOn (by omega) hc61) ?_
  refine x_if_ne (tgt := 279) dX12_qGoesOn_252 (by decide) (fun c62 => ?_) (fun c62 => ?_)
  · replace H := ite_m H c62
    exact t_X12_qGoesOn_279 hd hk247 H
  · replace H := ite_p H c62
    refine x_aload_n dX12_qGoesOn_255 rfl 0 rfl ?_
    refine x_iconst (v := 4) dX12_qGoesOn_256 (by decide) ?_
    obtain ⟨c84, H⟩ := ko_o H
    obtain ⟨v63, h64, hc65, H⟩ := bd_o H
    refine x_callVi (As := [.int 4]) (q := (RX12, TX12, 103)) dX12_qGoesOn_257 mi_X12_qIsOn lk_X12_608 im_X12_qIsOn se_X12_qIsOn rfl c84 rfl rfl (Nat.le_of_ble_eq_true rfl) (t_X12_qIsOn (by omega) hc65) ?_
    refine x_if_ne (tgt := 279) dX12_qGoesOn_260 (by decide) (fun c66 => ?_) (fun c66 => ?_)
    · replace H := ite_m H c66
      exact t_X12_qGoesOn_279 hd hk247 H
    · replace H := ite_p H c66
      refine x_aload_n dX12_qGoesOn_263 rfl 0 rfl ?_
      refine x_iconst (v := 1) dX12_qGoesOn_264 (by decide) ?_
      obtain ⟨c83, H⟩ := ko_o H
      obtain ⟨v67, h68, hc69, H⟩ := bd_o H
      refine x_callVi (As := [.int 1]) (q := (RX12, TX12, 103)) dX12_qGoesOn_265 mi_X12_qIsOn lk_X12_608 im_X12_qIsOn se_X12_qIsOn rfl c83 rfl rfl (Nat.le_of_ble_eq_true rfl) (t_X12_qIsOn (by omega) hc69) ?_
      refine x_if_ne (tgt := 279) dX12_qGoesOn_268 (by decide) (fun c70 => ?_) (fun c70 => ?_)
      · replace H := ite_m H c70
        exact t_X12_qGoesOn_279 hd hk247 H
      · replace H := ite_p H c70
        refine x_aload_n dX12_qGoesOn_271 rfl 0 rfl ?_
        refine x_iconst (v := 2) dX12_qGoesOn_272 (by decide) ?_
        obtain ⟨c82, H⟩ := ko_o H
        obtain ⟨v71, h72, hc73, H⟩ := bd_o H
        refine x_callVi (As := [.int 2]) (q := (RX12, TX12, 103)) dX12_qGoesOn_273 mi_X12_qIsOn lk_X12_608 im_X12_qIsOn se_X12_qIsOn rfl c82 rfl rfl (Nat.le_of_ble_eq_true rfl) (t_X12_qIsOn (by omega) hc73) ?_
        refine x_if_eq (tgt := 286) dX12_qGoesOn_276 (by decide) (fun c74 => ?_) (fun c74 => ?_)
        · replace H := ite_p H c74
          refine x_aload_n dX12_qGoesOn_286 rfl 0 rfl ?_
          obtain ⟨c75, H⟩ := ko_o H
          obtain ⟨a76, c77, H⟩ := kr_o H
          refine x_getR fr_X12_213 dX12_qGoesOn_287 c75 rfl c77 ?_
          refine x_aload_n dX12_qGoesOn_290 rfl 0 rfl ?_
          refine x_getI fr_X12_309 dX12_qGoesOn_291 c75 rfl ?_
          refine x_iload_n dX12_qGoesOn_294 rfl 1 rfl ?_
          obtain ⟨n79, c78, H⟩ := ka_o H
          obtain ⟨c80, H⟩ := chk_o H
          refine x_iast dX12_qGoesOn_295 c78 (inb_in.mp c80) ?_
          refine x_aload_n dX12_qGoesOn_296 rfl 0 rfl ?_
          refine x_dup dX12_qGoesOn_297 rfl ?_
          obtain ⟨v81, ev81, H⟩ := nm_o H
          refine x_getIe fr_X12_309 dX12_qGoesOn_298 c75 rfl ev81 ?_
          refine x_iconst (v := 1) dX12_qGoesOn_301 (by decide) ?_
          refine x_iadd dX12_qGoesOn_302 ?_
          refine x_putI fl_X12_309 dX12_qGoesOn_303 c75 (fun e => by cases e) rfl ?_
          refine x_iconst (v := 1) dX12_qGoesOn_306 (by decide) ?_
          obtain ⟨rfl, rfl⟩ := so_1 H
          exact x_iret dX12_qGoesOn_307 rfl (by decide)
        · replace H := ite_m H c74
          exact t_X12_qGoesOn_279 hd hk247 H
def f_X12_qGoesOn_247 : Nat → Nat → Int32 → aH → Option (Int32 × aH)
  | 0 => fun _ _ _ => none
  | n + 1 => b_X12_qGoesOn_247 (f_X12_qGoesOn_247 n)
set_option maxRecDepth 100000 in
set_option maxHeartbeats 4000000 in
theorem t_X12_qGoesOn_247 {Γ : gS} {d : Nat} (hd : 3 ≤ d) (n : Nat) : ∀ {x0 : Nat} {x1 : Int32} {h : aH} {r : Int32} {h' : aH}, f_X12_qGoesOn_247 n x0 x1 h = some (r, h') → Ex Γ gX12_qGoesOn d 247 [(0, .ref x0), (1, .int x1)] [] h (some (.int r)) h' := by
  induction n with
  | zero => intro x0 x1 h r h' H; cases H
  | succ n ih => intro x0 x1 h r h' H; exact tb_X12_qGoesOn_247 hd ih H
def f_X12_qGoesOn_246 (x0 : Nat) (s0 : Int32) (h : aH) : Option (Int32 × aH) :=
  f_X12_qGoesOn_247 FU x0 s0 h
set_option maxRecDepth 100000 in
set_option maxHeartbeats 4000000 in
theorem t_X12_qGoesOn_246 {Γ : gS} {d : Nat} (hd : 3 ≤ d) {x0 : Nat} {s0 : Int32} {h : aH} {r : Int32} {h' : aH} (H : f_X12_qGoesOn_246 x0 s0 h = some (r, h')) : Ex Γ gX12_qGoesOn d 246 [(0, .ref x0)] [.int s0] h (some (.int r)) h' := by
  unfold f_X12_qGoesOn_246 at H
  obtain ⟨d, rfl⟩ : ∃ e, d = e + 1 := ⟨d - 1, by omega⟩
  refine x_istore_n (lv' := [(1, .int s0), (0, .ref x0)]) dX12_qGoesOn_246 rfl (by decide) rfl rfl ?_
  refine Ex.sub [1, 0] rfl ?_
  exact t_X12_qGoesOn_247 hd FU H
def f_X12_qGoesOn_225 (x0 : Nat) (h : aH) : Option (Int32 × aH) :=
  ko h x0 11 <|
  kr (hR h x0 0) fun a87 =>
  ka h a87 .int fun n90 =>
  chk (inb ((hI h x0 2) - 1) n90 = true) <|
  if (hI h a87 ((hI h x0 2) - 1 : Int32).toNatClampNeg) = 43 then
    f_X12_qGoesOn_246 x0 1 h
  else
    f_X12_qGoesOn_246 x0 2 h
set_option maxRecDepth 100000 in
set_option maxHeartbeats 4000000 in
theorem t_X12_qGoesOn_225 {Γ : gS} {d : Nat} (hd : 3 ≤ d) {x0 : Nat} {h : aH} {r : Int32} {h' : aH} (H : f_X12_qGoesOn_225 x0 h = some (r, h')) : Ex Γ gX12_qGoesOn d 225 [(0, .ref x0)] [] h (some (.int r)) h' := by
  unfold f_X12_qGoesOn_225 at H
  obtain ⟨d, rfl⟩ : ∃ e, d = e + 1 := ⟨d - 1, by omega⟩
  refine x_aload_n dX12_qGoesOn_225 rfl 0 rfl ?_
  obtain ⟨c86, H⟩ := ko_o H
  obtain ⟨a87, c88, H⟩ := kr_o H
  refine x_getR fr_X12_7 dX12_qGoesOn_226 c86 rfl c88 ?_
  refine x_aload_n dX12_qGoesOn_229 rfl 0 rfl ?_
  refine x_getI fr_X12_231 dX12_qGoesOn_230 c86 rfl ?_
  refine x_iconst (v := 1) dX12_qGoesOn_233 (by decide) ?_
  refine x_isub dX12_qGoesOn_234 ?_
  obtain ⟨n90, c89, H⟩ := ka_o H
  obtain ⟨c91, H⟩ := chk_o H
  refine x_iald dX12_qGoesOn_235 c89 (inb_in.mp c91) ?_
  refine x_bipush (v := 43) dX12_qGoesOn_236 (by decide) ?_
  refine x_icmp_ne (tgt := 245) dX12_qGoesOn_238 (by decide) (fun c92 => ?_) (fun c92 => ?_)
  · replace H := ite_m H c92
    refine x_iconst (v := 2) dX12_qGoesOn_245 (by decide) ?_
    exact t_X12_qGoesOn_246 hd H
  · replace H := ite_p H c92
    refine x_iconst (v := 1) dX12_qGoesOn_241 (by decide) ?_
    refine x_goto (tgt := 246) dX12_qGoesOn_242 (by decide) ?_
    exact t_X12_qGoesOn_246 hd H
def f_X12_qGoesOn_326 (x0 : Nat) (h : aH) : Option (Int32 × aH) :=
  ko h x0 11 <|
  bd (f_X12_asksSign x0 44 h) fun _ h94 =>
  ko h94 x0 11 <|
  if (hI h94 x0 5) = 0 then
    bd (f_X12_qDropsToBracket x0 h94) fun _ h99 =>
    ko h99 x0 11 <|
    kr (hR h99 x0 93) fun a102 =>
    ka h99 a102 .int fun n105 =>
    chk (inb ((hI h99 x0 94) - 1) n105 = true) <|
    some (1, sI h99 a102 ((hI h99 x0 94) - 1 : Int32).toNatClampNeg ((hI h99 a102 ((hI h99 x0 94) - 1 : Int32).toNatClampNeg) + 2))
  else
    some (0, h94)
set_option maxRecDepth 100000 in
set_option maxHeartbeats 4000000 in
theorem t_X12_qGoesOn_326 {Γ : gS} {d : Nat} (hd : 3 ≤ d) {x0 : Nat} {h : aH} {r : Int32} {h' : aH} (H : f_X12_qGoesOn_326 x0 h = some (r, h')) : Ex Γ gX12_qGoesOn d 326 [(0, .ref x0)] [] h (some (.int r)) h' := by
  unfold f_X12_qGoesOn_326 at H
  obtain ⟨d, rfl⟩ : ∃ e, d = e + 1 := ⟨d - 1, by omega⟩
  refine x_aload_n dX12_qGoesOn_326 rfl 0 rfl ?_
  refine x_bipush (v := 44) dX12_qGoesOn_327 (by decide) ?_
  obtain ⟨c107, H⟩ := ko_o H
  obtain ⟨v93, h94, hc95, H⟩ := bd_o H
  refine x_callVv (As := [.int 44]) (q := (RX12, TX12, 103)) dX12_qGoesOn_329 mi_X12_asksSign lk_X12_298 im_X12_asksSign se_X12_asksSign rfl c107 rfl rfl (Nat.le_of_ble_eq_true rfl) (t_X12_asksSign (by omega) hc95) ?_
  refine x_aload_n dX12_qGoesOn_332 rfl 0 rfl ?_
  obtain ⟨c96, H⟩ := ko_o H
  refine x_getI fr_X12_225 dX12_qGoesOn_333 c96 rfl ?_
  refine x_if_eq (tgt := 341) dX12_qGoesOn_336 (by decide) (fun c97 => ?_) (fun c97 => ?_)
  · replace H := ite_p H c97
    refine x_aload_n dX12_qGoesOn_341 rfl 0 rfl ?_
    obtain ⟨v98, h99, hc100, H⟩ := bd_o H
    refine x_callVv (As := []) (q := (RX12, TX12, 103)) dX12_qGoesOn_342 mi_X12_qDropsToBracket lk_X12_605 im_X12_qDropsToBracket se_X12_qDropsToBracket rfl c96 rfl rfl (Nat.le_of_ble_eq_true rfl) (t_X12_qDropsToBracket (by omega) hc100) ?_
    refine x_aload_n dX12_qGoesOn_345 rfl 0 rfl ?_
    obtain ⟨c101, H⟩ := ko_o H
    obtain ⟨a102, c103, H⟩ := kr_o H
    refine x_getR fr_X12_213 dX12_qGoesOn_346 c101 rfl c103 ?_
    refine x_aload_n dX12_qGoesOn_349 rfl 0 rfl ?_
    refine x_getI fr_X12_309 dX12_qGoesOn_350 c101 rfl ?_
    refine x_iconst (v := 1) dX12_qGoesOn_353 (by decide) ?_
    refine x_isub dX12_qGoesOn_354 ?_
    refine x_dup2 dX12_qGoesOn_355 rfl rfl ?_
    obtain ⟨n105, c104, H⟩ := ka_o H
    obtain ⟨c106, H⟩ := chk_o H
    refine x_iald dX12_qGoesOn_356 c104 (inb_in.mp c106) ?_
    refine x_iconst (v := 2) dX12_qGoesOn_357 (by decide) ?_
    refine x_iadd dX12_qGoesOn_358 ?_
    refine x_iast dX12_qGoesOn_359 c104 (inb_in.mp c106) ?_
    refine x_iconst (v := 1) dX12_qGoesOn_360 (by decide) ?_
    obtain ⟨rfl, rfl⟩ := so_1 H
    exact x_iret dX12_qGoesOn_361 rfl (by decide)
  · replace H := ite_m H c97
    refine x_iconst (v := 0) dX12_qGoesOn_339 (by decide) ?_
    obtain ⟨rfl, rfl⟩ := so_1 H
    exact x_iret dX12_qGoesOn_340 rfl (by decide)
def f_X12_qGoesOn_386 (h : aH) : Option (Int32 × aH) :=
  some (0, h)
set_option maxRecDepth 100000 in
set_option maxHeartbeats 4000000 in
theorem t_X12_qGoesOn_386 {Γ : gS} {d : Nat} (hd : 3 ≤ d) {h : aH} {r : Int32} {h' : aH} (H : f_X12_qGoesOn_386 h = some (r, h')) : Ex Γ gX12_qGoesOn d 386 [] [] h (some (.int r)) h' := by
  unfold f_X12_qGoesOn_386 at H
  obtain ⟨d, rfl⟩ : ∃ e, d = e + 1 := ⟨d - 1, by omega⟩
  refine x_iconst (v := 0) dX12_qGoesOn_386 (by decide) ?_
  obtain ⟨rfl, rfl⟩ := so_1 H
  exact x_iret dX12_qGoesOn_387 rfl (by decide)
def f_X12_qGoesOn_122 (x0 : Nat) (h : aH) : Option (Int32 × aH) :=
  ko h x0 11 <|
  bd (f_X12_takesSign x0 42 h) fun v108 h109 =>
  if v108 = 0 then
    ko h109 x0 11 <|
    bd (f_X12_takesSign x0 47 h109) fun v112 h113 =>
    if v112 = 0 then
      ko h113 x0 11 <|
      bd (f_X12_takesSign x0 43 h113) fun v116 h117 =>
      if v116 = 0 then
        ko h117 x0 11 <|
        bd (f_X12_takesSign x0 45 h117) fun v120 h121 =>
        if v120 = 0 then
          ko h121 x0 11 <|
          bd (f_X12_qBracket x0 h121) fun v124 h125 =>
          if v124 = 21 then
            f_X12_qGoesOn_326 x0 h125
          else
            ko h125 x0 11 <|
            bd (f_X12_qBracket x0 h125) fun v128 h129 =>
            if v128 = 22 then
              f_X12_qGoesOn_326 x0 h129
            else
              ko h129 x0 11 <|
              bd (f_X12_qBracket x0 h129) fun v132 h133 =>
              if v132 = (-1) then
                f_X12_qGoesOn_386 h133
              else
                ko h133 x0 11 <|
                if (hI h133 x0 5) = 0 then
                  bd (f_X12_fail x0 1 (hI h133 x0 2) h133) fun _ h139 =>
                  f_X12_qGoesOn_386 h139
                else
                  f_X12_qGoesOn_386 h133
        else
          f_X12_qGoesOn_225 x0 h121
      else
        f_X12_qGoesOn_225 x0 h117
    else
      f_X12_qGoesOn_140 x0 h113
  else
    f_X12_qGoesOn_140 x0 h109
set_option maxRecDepth 100000 in
set_option maxHeartbeats 4000000 in
theorem t_X12_qGoesOn_122 {Γ : gS} {d : Nat} (hd : 3 ≤ d) {x0 : Nat} {h : aH} {r : Int32} {h' : aH} (H : f_X12_qGoesOn_122 x0 h = some (r, h')) : Ex Γ gX12_qGoesOn d 122 [(0, .ref x0)] [] h (some (.int r)) h' := by
  unfold f_X12_qGoesOn_122 at H
  obtain ⟨d, rfl⟩ : ∃ e, d = e + 1 := ⟨d - 1, by omega⟩
  refine x_aload_n dX12_qGoesOn_122 rfl 0 rfl ?_
  refine x_bipush (v := 42) dX12_qGoesOn_123 (by decide) ?_
  obtain ⟨c147, H⟩ := ko_o H
  obtain ⟨v108, h109, hc110, H⟩ := bd_o H
  refine x_callVi (As := [.int 42]) (q := (RX12, TX12, 103)) dX12_qGoesOn_125 mi_X12_takesSign lk_X12_259 im_X12_takesSign se_X12_takesSign rfl c147 rfl rfl (Nat.le_of_ble_eq_true rfl) (t_X12_takesSign (by omega) hc110) ?_
  refine x_if_ne (tgt := 140) dX12_qGoesOn_128 (by decide) (fun c111 => ?_) (fun c111 => ?_)
  · replace H := ite_m H c111
    exact t_X12_qGoesOn_140 hd H
  · replace H := ite_p H c111
    refine x_aload_n dX12_qGoesOn_131 rfl 0 rfl ?_
    refine x_bipush (v := 47) dX12_qGoesOn_132 (by decide) ?_
    obtain ⟨c146, H⟩ := ko_o H
    obtain ⟨v112, h113, hc114, H⟩ := bd_o H
    refine x_callVi (As := [.int 47]) (q := (RX12, TX12, 103)) dX12_qGoesOn_134 mi_X12_takesSign lk_X12_259 im_X12_takesSign se_X12_takesSign rfl c146 rfl rfl (Nat.le_of_ble_eq_true rfl) (t_X12_takesSign (by omega) hc114) ?_
    refine x_if_eq (tgt := 207) dX12_qGoesOn_137 (by decide) (fun c115 => ?_) (fun c115 => ?_)
    · replace H := ite_p H c115
      refine x_aload_n dX12_qGoesOn_207 rfl 0 rfl ?_
      refine x_bipush (v := 43) dX12_qGoesOn_208 (by decide) ?_
      obtain ⟨c145, H⟩ := ko_o H
      obtain ⟨v116, h117, hc118, H⟩ := bd_o H
      refine x_callVi (As := [.int 43]) (q := (RX12, TX12, 103)) dX12_qGoesOn_210 mi_X12_takesSign lk_X12_259 im_X12_takesSign se_X12_takesSign rfl c145 rfl rfl (Nat.le_of_ble_eq_true rfl) (t_X12_takesSign (by omega) hc118) ?_
      refine x_if_ne (tgt := 225) dX12_qGoesOn_213 (by decide) (fun c119 => ?_) (fun c119 => ?_)
      · replace H := ite_m H c119
        exact t_X12_qGoesOn_225 hd H
      · replace H := ite_p H c119
        refine x_aload_n dX12_qGoesOn_216 rfl 0 rfl ?_
        refine x_bipush (v := 45) dX12_qGoesOn_217 (by decide) ?_
        obtain ⟨c144, H⟩ := ko_o H
        obtain ⟨v120, h121, hc122, H⟩ := bd_o H
        refine x_callVi (As := [.int 45]) (q := (RX12, TX12, 103)) dX12_qGoesOn_219 mi_X12_takesSign lk_X12_259 im_X12_takesSign se_X12_takesSign rfl c144 rfl rfl (Nat.le_of_ble_eq_true rfl) (t_X12_takesSign (by omega) hc122) ?_
        refine x_if_eq (tgt := 308) dX12_qGoesOn_222 (by decide) (fun c123 => ?_) (fun c123 => ?_)
        · replace H := ite_p H c123
          refine x_aload_n dX12_qGoesOn_308 rfl 0 rfl ?_
          obtain ⟨c143, H⟩ := ko_o H
          obtain ⟨v124, h125, hc126, H⟩ := bd_o H
          refine x_callVi (As := []) (q := (RX12, TX12, 103)) dX12_qGoesOn_309 mi_X12_qBracket lk_X12_602 im_X12_qBracket se_X12_qBracket rfl c143 rfl rfl (Nat.le_of_ble_eq_true rfl) (t_X12_qBracket (by omega) hc126) ?_
          refine x_bipush (v := 21) dX12_qGoesOn_312 (by decide) ?_
          refine x_icmp_eq (tgt := 326) dX12_qGoesOn_314 (by decide) (fun c127 => ?_) (fun c127 => ?_)
          · replace H := ite_p H c127
            exact t_X12_qGoesOn_326 hd H
          · replace H := ite_m H c127
            refine x_aload_n dX12_qGoesOn_317 rfl 0 rfl ?_
            obtain ⟨c142, H⟩ := ko_o H
            obtain ⟨v128, h129, hc130, H⟩ := bd_o H
            refine x_callVi (As := []) (q := (RX12, TX12, 103)) dX12_qGoesOn_318 mi_X12_qBracket lk_X12_602 im_X12_qBracket se_X12_qBracket rfl c142 rfl rfl (Nat.le_of_ble_eq_true rfl) (t_X12_qBracket (by omega) hc130) ?_
            refine x_bipush (v := 22) dX12_qGoesOn_321 (by decide) ?_
            refine x_icmp_ne (tgt := 362) dX12_qGoesOn_323 (by decide) (fun c131 => ?_) (fun c131 => ?_)
            · replace H := ite_m H c131
              refine x_aload_n dX12_qGoesOn_362 rfl 0 rfl ?_
              obtain ⟨c141, H⟩ := ko_o H
              obtain ⟨v132, h133, hc134, H⟩ := bd_o H
              refine x_callVi (As := []) (q := (RX12, TX12, 103)) dX12_qGoesOn_363 mi_X12_qBracket lk_X12_602 im_X12_qBracket se_X12_qBracket rfl c141 rfl rfl (Nat.le_of_ble_eq_true rfl) (t_X12_qBracket (by omega) hc134) ?_
              refine x_iconst (v := (-1)) dX12_qGoesOn_366 (by decide) ?_
              refine x_icmp_eq (tgt := 386) dX12_qGoesOn_367 (by decide) (fun c135 => ?_) (fun c135 => ?_)
              · replace H := ite_p H c135
                refine Ex.sub [] rfl ?_
                exact t_X12_qGoesOn_386 hd H
              · replace H := ite_m H c135
                refine x_aload_n dX12_qGoesOn_370 rfl 0 rfl ?_
                obtain ⟨c136, H⟩ := ko_o H
                refine x_getI fr_X12_225 dX12_qGoesOn_371 c136 rfl ?_
                refine x_if_ne (tgt := 386) dX12_qGoesOn_374 (by decide) (fun c137 => ?_) (fun c137 => ?_)
                · replace H := ite_m H c137
                  refine Ex.sub [] rfl ?_
                  exact t_X12_qGoesOn_386 hd H
                · replace H := ite_p H c137
                  refine x_aload_n dX12_qGoesOn_377 rfl 0 rfl ?_
                  refine x_iconst (v := 1) dX12_qGoesOn_378 (by decide) ?_
                  refine x_aload_n dX12_qGoesOn_379 rfl 0 rfl ?_
                  refine x_getI fr_X12_231 dX12_qGoesOn_380 c136 rfl ?_
                  obtain ⟨v138, h139, hc140, H⟩ := bd_o H
                  refine x_callVv (As := [.int 1, .int (hI h133 x0 2)]) (q := (RX12, TX12, 103)) dX12_qGoesOn_383 mi_X12_fail lk_X12_255 im_X12_fail se_X12_fail rfl c136 rfl rfl (Nat.le_of_ble_eq_true rfl) (t_X12_fail (by omega) hc140) ?_
                  refine Ex.sub [] rfl ?_
                  exact t_X12_qGoesOn_386 hd H
            · replace H := ite_p H c131
              exact t_X12_qGoesOn_326 hd H
        · replace H := ite_m H c123
          exact t_X12_qGoesOn_225 hd H
    · replace H := ite_m H c115
      exact t_X12_qGoesOn_140 hd H
def b_X12_qGoesOn_0 (k0 : Nat → aH → Option (Int32 × aH)) (x0 : Nat) (h : aH) : Option (Int32 × aH) :=
  ko h x0 11 <|
  if (hI h x0 5) = 0 then
    bd (f_X12_look x0 h) fun v150 h151 =>
    if v150 = 41 then
      ko h151 x0 11 <|
      bd (f_X12_qBracket x0 h151) fun v154 h155 =>
      if v154 = 20 then
        f_X12_qGoesOn_43 k0 x0 h155
      else
        ko h155 x0 11 <|
        bd (f_X12_qBracket x0 h155) fun v158 h159 =>
        if v158 = 23 then
          f_X12_qGoesOn_43 k0 x0 h159
        else
          ko h159 x0 11 <|
          bd (f_X12_qBracket x0 h159) fun v162 h163 =>
          if v162 = 24 then
            f_X12_qGoesOn_43 k0 x0 h163
          else
            f_X12_qGoesOn_122 x0 h163
    else
      f_X12_qGoesOn_122 x0 h151
  else
    f_X12_qGoesOn_122 x0 h
set_option maxRecDepth 100000 in
set_option maxHeartbeats 4000000 in
theorem tb_X12_qGoesOn_0 {Γ : gS} {d : Nat} (hd : 3 ≤ d) {k0 : Nat → aH → Option (Int32 × aH)} (hk0 : ∀ {x0 : Nat} {h : aH} {r : Int32} {h' : aH}, k0 x0 h = some (r, h') → Ex Γ gX12_qGoesOn d 0 [(0, .ref x0)] [] h (some (.int r)) h') {x0 : Nat} {h : aH} {r : Int32} {h' : aH} (H : b_X12_qGoesOn_0 k0 x0 h = some (r, h')) : Ex Γ gX12_qGoesOn d 0 [(0, .ref x0)] [] h (some (.int r)) h' := by
  unfold b_X12_qGoesOn_0 at H
  obtain ⟨d, rfl⟩ : ∃ e, d = e + 1 := ⟨d - 1, by omega⟩
  refine x_aload_n dX12_qGoesOn_0 rfl 0 rfl ?_
  obtain ⟨c148, H⟩ := ko_o H
  refine x_getI fr_X12_225 dX12_qGoesOn_1 c148 rfl ?_
  refine x_if_ne (tgt := 122) dX12_qGoesOn_4 (by decide) (fun c149 => ?_) (fun c149 => ?_)
  · replace H := ite_m H c149
    exact t_X12_qGoesOn_122 hd H
  · replace H := ite_p H c149
    refine x_aload_n dX12_qGoesOn_7 rfl 0 rfl ?_
    obtain ⟨v150, h151, hc152, H⟩ := bd_o H
    refine x_callVi (As := []) (q := (RX12, TX12, 103)) dX12_qGoesOn_8 mi_X12_look lk_X12_237 im_X12_look se_X12_look rfl c148 rfl rfl (Nat.le_of_ble_eq_true rfl) (t_X12_look (by omega) hc152) ?_
    refine x_bipush (v := 41) dX12_qGoesOn_11 (by decide) ?_
    refine x_icmp_ne (tgt := 122) dX12_qGoesOn_13 (by decide) (fun c153 => ?_) (fun c153 => ?_)
    · replace H := ite_m H c153
      exact t_X12_qGoesOn_122 hd H
    · replace H := ite_p H c153
      refine x_aload_n dX12_qGoesOn_16 rfl 0 rfl ?_
      obtain ⟨c168, H⟩ := ko_o H
      obtain ⟨v154, h155, hc156, H⟩ := bd_o H
      refine x_callVi (As := []) (q := (RX12, TX12, 103)) dX12_qGoesOn_17 mi_X12_qBracket lk_X12_602 im_X12_qBracket se_X12_qBracket rfl c168 rfl rfl (Nat.le_of_ble_eq_true rfl) (t_X12_qBracket (by omega) hc156) ?_
      refine x_bipush (v := 20) dX12_qGoesOn_20 (by decide) ?_
      refine x_icmp_eq (tgt := 43) dX12_qGoesOn_22 (by decide) (fun c157 => ?_) (fun c157 => ?_)
      · replace H := ite_p H c157
        exact t_X12_qGoesOn_43 hd hk0 H
      · replace H := ite_m H c157
        refine x_aload_n dX12_qGoesOn_25 rfl 0 rfl ?_
        obtain ⟨c167, H⟩ := ko_o H
        obtain ⟨v158, h159, hc160, H⟩ := bd_o H
        refine x_callVi (As := []) (q := (RX12, TX12, 103)) dX12_qGoesOn_26 mi_X12_qBracket lk_X12_602 im_X12_qBracket se_X12_qBracket rfl c167 rfl rfl (Nat.le_of_ble_eq_true rfl) (t_X12_qBracket (by omega) hc160) ?_
        refine x_bipush (v := 23) dX12_qGoesOn_29 (by decide) ?_
        refine x_icmp_eq (tgt := 43) dX12_qGoesOn_31 (by decide) (fun c161 => ?_) (fun c161 => ?_)
        · replace H := ite_p H c161
          exact t_X12_qGoesOn_43 hd hk0 H
        · replace H := ite_m H c161
          refine x_aload_n dX12_qGoesOn_34 rfl 0 rfl ?_
          obtain ⟨c166, H⟩ := ko_o H
          obtain ⟨v162, h163, hc164, H⟩ := bd_o H
          refine x_callVi (As := []) (q := (RX12, TX12, 103)) dX12_qGoesOn_35 mi_X12_qBracket lk_X12_602 im_X12_qBracket se_X12_qBracket rfl c166 rfl rfl (Nat.le_of_ble_eq_true rfl) (t_X12_qBracket (by omega) hc164) ?_
          refine x_bipush (v := 24) dX12_qGoesOn_38 (by decide) ?_
          refine x_icmp_ne (tgt := 122) dX12_qGoesOn_40 (by decide) (fun c165 => ?_) (fun c165 => ?_)
          · replace H := ite_m H c165
            exact t_X12_qGoesOn_122 hd H
          · replace H := ite_p H c165
            exact t_X12_qGoesOn_43 hd hk0 H
def f_X12_qGoesOn_0 : Nat → Nat → aH → Option (Int32 × aH)
  | 0 => fun _ _ => none
  | n + 1 => b_X12_qGoesOn_0 (f_X12_qGoesOn_0 n)
set_option maxRecDepth 100000 in
set_option maxHeartbeats 4000000 in
theorem t_X12_qGoesOn_0 {Γ : gS} {d : Nat} (hd : 3 ≤ d) (n : Nat) : ∀ {x0 : Nat} {h : aH} {r : Int32} {h' : aH}, f_X12_qGoesOn_0 n x0 h = some (r, h') → Ex Γ gX12_qGoesOn d 0 [(0, .ref x0)] [] h (some (.int r)) h' := by
  induction n with
  | zero => intro x0 h r h' H; cases H
  | succ n ih => intro x0 h r h' H; exact tb_X12_qGoesOn_0 hd ih H
def f_X12_qGoesOn (x0 : Nat) (h : aH) : Option (Int32 × aH) :=
  f_X12_qGoesOn_0 FU x0 h
set_option maxRecDepth 100000 in
set_option maxHeartbeats 4000000 in
theorem t_X12_qGoesOn {Γ : gS} {d : Nat} (hd : 3 ≤ d) {x0 : Nat} {h : aH} {r : Int32} {h' : aH} (H : f_X12_qGoesOn x0 h = some (r, h')) : Mx Γ gX12_qGoesOn d [.ref x0] h (some (.int r)) h' := by
  refine Mx.of (by decide +kernel) (Nat.le_of_ble_eq_true rfl) ?_
  unfold f_X12_qGoesOn at H
  show Ex Γ gX12_qGoesOn d 0 [(0, .ref x0)] [] h (some (.int r)) h'
  obtain ⟨d, rfl⟩ : ∃ e, d = e + 1 := ⟨d - 1, by omega⟩
  exact t_X12_qGoesOn_0 hd FU H
def f_X12_qAsksWord_204 (h : aH) : Option (Unit × aH) :=
  some ((), h)
set_option maxRecDepth 100000 in
set_option maxHeartbeats 4000000 in
theorem t_X12_qAsksWord_204 {Γ : gS} {d : Nat} (hd : 4 ≤ d) {h : aH} {r : Unit} {h' : aH} (H : f_X12_qAsksWord_204 h = some (r, h')) : Ex Γ gX12_qAsksWord d 204 [] [] h none h' := by
  unfold f_X12_qAsksWord_204 at H
  obtain ⟨d, rfl⟩ : ∃ e, d = e + 1 := ⟨d - 1, by omega⟩
  obtain ⟨-, rfl⟩ := so_1 H
  exact x_vret dX12_qAsksWord_204 rfl
def f_X12_qAsksWord_196 (x0 : Nat) (h : aH) : Option (Unit × aH) :=
  ko h x0 11 <|
  kr (hR h x0 90) fun a2 =>
  bd (f_X12_asks x0 a2 h) fun _ h5 =>
  f_X12_qAsksWord_204 h5
set_option maxRecDepth 100000 in
set_option maxHeartbeats 4000000 in
theorem t_X12_qAsksWord_196 {Γ : gS} {d : Nat} (hd : 4 ≤ d) {x0 : Nat} {h : aH} {r : Unit} {h' : aH} (H : f_X12_qAsksWord_196 x0 h = some (r, h')) : Ex Γ gX12_qAsksWord d 196 [(0, .ref x0)] [] h none h' := by
  unfold f_X12_qAsksWord_196 at H
  obtain ⟨d, rfl⟩ : ∃ e, d = e + 1 := ⟨d - 1, by omega⟩
  refine x_aload_n dX12_qAsksWord_196 rfl 0 rfl ?_
  refine x_aload_n dX12_qAsksWord_197 rfl 0 rfl ?_
  obtain ⟨c1, H⟩ := ko_o H
  obtain ⟨a2, c3, H⟩ := kr_o H
  refine x_getR fr_X12_207 dX12_qAsksWord_198 c1 rfl c3 ?_
  obtain ⟨v4, h5, hc6, H⟩ := bd_o H
  refine x_callVv (As := [.ref a2]) (q := (RX12, TX12, 103)) dX12_qAsksWord_201 mi_X12_asks lk_X12_290 im_X12_asks se_X12_asks rfl c1 rfl rfl (Nat.le_of_ble_eq_true rfl) (t_X12_asks (by omega) hc6) ?_
  refine Ex.sub [] rfl ?_
  exact t_X12_qAsksWord_204 hd H
def f_X12_qAsksWord (x0 : Nat) (x1 : Int32) (h : aH) : Option (Unit × aH) :=
  if x1 < 0 then
    f_X12_qAsksWord_196 x0 h
  else
  if 11 < x1 then
    f_X12_qAsksWord_196 x0 h
  else
  if x1 = 0 then
    ko h x0 11 <|
    kr (hR h x0 78) fun a11 =>
    bd (f_X12_asks x0 a11 h) fun _ h14 =>
    f_X12_qAsksWord_204 h14
  else
  if x1 = 1 then
    ko h x0 11 <|
    kr (hR h x0 79) fun a18 =>
    bd (f_X12_asks x0 a18 h) fun _ h21 =>
    f_X12_qAsksWord_204 h21
  else
  if x1 = 2 then
    ko h x0 11 <|
    kr (hR h x0 80) fun a25 =>
    bd (f_X12_asks x0 a25 h) fun _ h28 =>
    f_X12_qAsksWord_204 h28
  else
  if x1 = 3 then
    ko h x0 11 <|
    kr (hR h x0 81) fun a32 =>
    bd (f_X12_asks x0 a32 h) fun _ h35 =>
    f_X12_qAsksWord_204 h35
  else
  if x1 = 4 then
    ko h x0 11 <|
    kr (hR h x0 82) fun a39 =>
    bd (f_X12_asks x0 a39 h) fun _ h42 =>
    f_X12_qAsksWord_204 h42
  else
  if x1 = 5 then
    ko h x0 11 <|
    kr (hR h x0 83) fun a46 =>
    bd (f_X12_asks x0 a46 h) fun _ h49 =>
    f_X12_qAsksWord_204 h49
  else
  if x1 = 6 then
    ko h x0 11 <|
    kr (hR h x0 84) fun a53 =>
    bd (f_X12_asks x0 a53 h) fun _ h56 =>
    f_X12_qAsksWord_204 h56
  else
  if x1 = 7 then
    ko h x0 11 <|
    kr (hR h x0 85) fun a60 =>
    bd (f_X12_asks x0 a60 h) fun _ h63 =>
    f_X12_qAsksWord_204 h63
  else
  if x1 = 8 then
    ko h x0 11 <|
    kr (hR h x0 86) fun a67 =>
    bd (f_X12_asks x0 a67 h) fun _ h70 =>
    f_X12_qAsksWord_204 h70
  else
  if x1 = 9 then
    ko h x0 11 <|
    kr (hR h x0 87) fun a74 =>
    bd (f_X12_asks x0 a74 h) fun _ h77 =>
    f_X12_qAsksWord_204 h77
  else
  if x1 = 10 then
    ko h x0 11 <|
    kr (hR h x0 88) fun a81 =>
    bd (f_X12_asks x0 a81 h) fun _ h84 =>
    f_X12_qAsksWord_204 h84
  else
  if x1 = 11 then
    ko h x0 11 <|
    kr (hR h x0 89) fun a88 =>
    bd (f_X12_asks x0 a88 h) fun _ h91 =>
    f_X12_qAsksWord_204 h91
  else
  none
set_option maxRecDepth 100000 in
set_option maxHeartbeats 4000000 in
theorem t_X12_qAsksWord {Γ : gS} {d : Nat} (hd : 4 ≤ d) {x0 : Nat} {x1 : Int32} {h : aH} {r : Unit} {h' : aH} (H : f_X12_qAsksWord x0 x1 h = some (r, h')) : Mx Γ gX12_qAsksWord d [.ref x0, .int x1] h none h' := by
  refine Mx.of (by decide +kernel) (Nat.le_of_ble_eq_true rfl) ?_
  unfold f_X12_qAsksWord at H
  show Ex Γ gX12_qAsksWord d 0 [(0, .ref x0), (1, .int x1)] [] h none h'
  obtain ⟨d, rfl⟩ : ∃ e, d = e + 1 := ⟨d - 1, by omega⟩
  refine x_iload_n dX12_qAsksWord_0 rfl 1 rfl ?_
  by_cases c7 : x1 < 0
  · replace H := ite_p H c7
    refine x_tableOut (tgt := 196) dX12_qAsksWord_1 (Or.inl (sw_lo c7 (by decide))) (by decide) ?_
    refine Ex.sub [0] rfl ?_
    exact t_X12_qAsksWord_196 hd H
  replace H := ite_m H c7
  by_cases c8 : 11 < x1
  · replace H := ite_p H c8
    refine x_tableOut (tgt := 196) dX12_qAsksWord_1 (Or.inr (sw_hi c8 (by decide))) (by decide) ?_
    refine Ex.sub [0] rfl ?_
    exact t_X12_qAsksWord_196 hd H
  replace H := ite_m H c8
  by_cases c9 : x1 = 0
  · replace H := ite_p H c9
    refine x_tableIn (tgt := 64) dX12_qAsksWord_1 (by rw [c9]; decide) (by rw [c9]; decide) (by rw [c9]; rfl) (by decide) ?_
    refine x_aload_n dX12_qAsksWord_64 rfl 0 rfl ?_
    refine x_aload_n dX12_qAsksWord_65 rfl 0 rfl ?_
    obtain ⟨c10, H⟩ := ko_o H
    obtain ⟨a11, c12, H⟩ := kr_o H
    refine x_getR fr_X12_171 dX12_qAsksWord_66 c10 rfl c12 ?_
    obtain ⟨v13, h14, hc15, H⟩ := bd_o H
    refine x_callVv (As := [.ref a11]) (q := (RX12, TX12, 103)) dX12_qAsksWord_69 mi_X12_asks lk_X12_290 im_X12_asks se_X12_asks rfl c10 rfl rfl (Nat.le_of_ble_eq_true rfl) (t_X12_asks (by omega) hc15) ?_
    refine x_goto (tgt := 204) dX12_qAsksWord_72 (by decide) ?_
    refine Ex.sub [] rfl ?_
    exact t_X12_qAsksWord_204 hd H
  replace H := ite_m H c9
  by_cases c16 : x1 = 1
  · replace H := ite_p H c16
    refine x_tableIn (tgt := 75) dX12_qAsksWord_1 (by rw [c16]; decide) (by rw [c16]; decide) (by rw [c16]; rfl) (by decide) ?_
    refine x_aload_n dX12_qAsksWord_75 rfl 0 rfl ?_
    refine x_aload_n dX12_qAsksWord_76 rfl 0 rfl ?_
    obtain ⟨c17, H⟩ := ko_o H
    obtain ⟨a18, c19, H⟩ := kr_o H
    refine x_getR fr_X12_174 dX12_qAsksWord_77 c17 rfl c19 ?_
    obtain ⟨v20, h21, hc22, H⟩ := bd_o H
    refine x_callVv (As := [.ref a18]) (q := (RX12, TX12, 103)) dX12_qAsksWord_80 mi_X12_asks lk_X12_290 im_X12_asks se_X12_asks rfl c17 rfl rfl (Nat.le_of_ble_eq_true rfl) (t_X12_asks (by omega) hc22) ?_
    refine x_goto (tgt := 204) dX12_qAsksWord_83 (by decide) ?_
    refine Ex.sub [] rfl ?_
    exact t_X12_qAsksWord_204 hd H
  replace H := ite_m H c16
  by_cases c23 : x1 = 2
  · replace H := ite_p H c23
    refine x_tableIn (tgt := 86) dX12_qAsksWord_1 (by rw [c23]; decide) (by rw [c23]; decide) (by rw [c23]; rfl) (by decide) ?_
    refine x_aload_n dX12_qAsksWord_86 rfl 0 rfl ?_
    refine x_aload_n dX12_qAsksWord_87 rfl 0 rfl ?_
    obtain ⟨c24, H⟩ := ko_o H
    obtain ⟨a25, c26, H⟩ := kr_o H
    refine x_getR fr_X12_177 dX12_qAsksWord_88 c24 rfl c26 ?_
    obtain ⟨v27, h28, hc29, H⟩ := bd_o H
    refine x_callVv (As := [.ref a25]) (q := (RX12, TX12, 103)) dX12_qAsksWord_91 mi_X12_asks lk_X12_290 im_X12_asks se_X12_asks rfl c24 rfl rfl (Nat.le_of_ble_eq_true rfl) (t_X12_asks (by omega) hc29) ?_
    refine x_goto (tgt := 204) dX12_qAsksWord_94 (by decide) ?_
    refine Ex.sub [] rfl ?_
    exact t_X12_qAsksWord_204 hd H
  replace H := ite_m H c23
  by_cases c30 : x1 = 3
  · replace H := ite_p H c30
    refine x_tableIn (tgt := 97) dX12_qAsksWord_1 (by rw [c30]; decide) (by rw [c30]; decide) (by rw [c30]; rfl) (by decide) ?_
    refine x_aload_n dX12_qAsksWord_97 rfl 0 rfl ?_
    refine x_aload_n dX12_qAsksWord_98 rfl 0 rfl ?_
    obtain ⟨c31, H⟩ := ko_o H
    obtain ⟨a32, c33, H⟩ := kr_o H
    refine x_getR fr_X12_180 dX12_qAsksWord_99 c31 rfl c33 ?_
    obtain ⟨v34, h35, hc36, H⟩ := bd_o H
    refine x_callVv (As := [.ref a32]) (q := (RX12, TX12, 103)) dX12_qAsksWord_102 mi_X12_asks lk_X12_290 im_X12_asks se_X12_asks rfl c31 rfl rfl (Nat.le_of_ble_eq_true rfl) (t_X12_asks (by omega) hc36) ?_
    refine x_goto (tgt := 204) dX12_qAsksWord_105 (by decide) ?_
    refine Ex.sub [] rfl ?_
    exact t_X12_qAsksWord_204 hd H
  replace H := ite_m H c30
  by_cases c37 : x1 = 4
  · replace H := ite_p H c37
    refine x_tableIn (tgt := 108) dX12_qAsksWord_1 (by rw [c37]; decide) (by rw [c37]; decide) (by rw [c37]; rfl) (by decide) ?_
    refine x_aload_n dX12_qAsksWord_108 rfl 0 rfl ?_
    refine x_aload_n dX12_qAsksWord_109 rfl 0 rfl ?_
    obtain ⟨c38, H⟩ := ko_o H
    obtain ⟨a39, c40, H⟩ := kr_o H
    refine x_getR fr_X12_183 dX12_qAsksWord_110 c38 rfl c40 ?_
    obtain ⟨v41, h42, hc43, H⟩ := bd_o H
    refine x_callVv (As := [.ref a39]) (q := (RX12, TX12, 103)) dX12_qAsksWord_113 mi_X12_asks lk_X12_290 im_X12_asks se_X12_asks rfl c38 rfl rfl (Nat.le_of_ble_eq_true rfl) (t_X12_asks (by omega) hc43) ?_
    refine x_goto (tgt := 204) dX12_qAsksWord_116 (by decide) ?_
    refine Ex.sub [] rfl ?_
    exact t_X12_qAsksWord_204 hd H
  replace H := ite_m H c37
  by_cases c44 : x1 = 5
  · replace H := ite_p H c44
    refine x_tableIn (tgt := 119) dX12_qAsksWord_1 (by rw [c44]; decide) (by rw [c44]; decide) (by rw [c44]; rfl) (by decide) ?_
    refine x_aload_n dX12_qAsksWord_119 rfl 0 rfl ?_
    refine x_aload_n dX12_qAsksWord_120 rfl 0 rfl ?_
    obtain ⟨c45, H⟩ := ko_o H
    obtain ⟨a46, c47, H⟩ := kr_o H
    refine x_getR fr_X12_186 dX12_qAsksWord_121 c45 rfl c47 ?_
    obtain ⟨v48, h49, hc50, H⟩ := bd_o H
    refine x_callVv (As := [.ref a46]) (q := (RX12, TX12, 103)) dX12_qAsksWord_124 mi_X12_asks lk_X12_290 im_X12_asks se_X12_asks rfl c45 rfl rfl (Nat.le_of_ble_eq_true rfl) (t_X12_asks (by omega) hc50) ?_
    refine x_goto (tgt := 204) dX12_qAsksWord_127 (by decide) ?_
    refine Ex.sub [] rfl ?_
    exact t_X12_qAsksWord_204 hd H
  replace H := ite_m H c44
  by_cases c51 : x1 = 6
  · replace H := ite_p H c51
    refine x_tableIn (tgt := 130) dX12_qAsksWord_1 (by rw [c51]; decide) (by rw [c51]; decide) (by rw [c51]; rfl) (by decide) ?_
    refine x_aload_n dX12_qAsksWord_130 rfl 0 rfl ?_
    refine x_aload_n dX12_qAsksWord_131 rfl 0 rfl ?_
    obtain ⟨c52, H⟩ := ko_o H
    obtain ⟨a53, c54, H⟩ := kr_o H
    refine x_getR fr_X12_189 dX12_qAsksWord_132 c52 rfl c54 ?_
    obtain ⟨v55, h56, hc57, H⟩ := bd_o H
    refine x_callVv (As := [.ref a53]) (q := (RX12, TX12, 103)) dX12_qAsksWord_135 mi_X12_asks lk_X12_290 im_X12_asks se_X12_asks rfl c52 rfl rfl (Nat.le_of_ble_eq_true rfl) (t_X12_asks (by omega) hc57) ?_
    refine x_goto (tgt := 204) dX12_qAsksWord_138 (by decide) ?_
    refine Ex.sub [] rfl ?_
    exact t_X12_qAsksWord_204 hd H
  replace H := ite_m H c51
  by_cases c58 : x1 = 7
  · replace H := ite_p H c58
    refine x_tableIn (tgt := 141) dX12_qAsksWord_1 (by rw [c58]; decide) (by rw [c58]; decide) (by rw [c58]; rfl) (by decide) ?_
    refine x_aload_n dX12_qAsksWord_141 rfl 0 rfl ?_
    refine x_aload_n dX12_qAsksWord_142 rfl 0 rfl ?_
    obtain ⟨c59, H⟩ := ko_o H
    obtain ⟨a60, c61, H⟩ := kr_o H
    refine x_getR fr_X12_192 dX12_qAsksWord_143 c59 rfl c61 ?_
    obtain ⟨v62, h63, hc64, H⟩ := bd_o H
    refine x_callVv (As := [.ref a60]) (q := (RX12, TX12, 103)) dX12_qAsksWord_146 mi_X12_asks lk_X12_290 im_X12_asks se_X12_asks rfl c59 rfl rfl (Nat.le_of_ble_eq_true rfl) (t_X12_asks (by omega) hc64) ?_
    refine x_goto (tgt := 204) dX12_qAsksWord_149 (by decide) ?_
    refine Ex.sub [] rfl ?_
    exact t_X12_qAsksWord_204 hd H
  replace H := ite_m H c58
  by_cases c65 : x1 = 8
  · replace H := ite_p H c65
    refine x_tableIn (tgt := 152) dX12_qAsksWord_1 (by rw [c65]; decide) (by rw [c65]; decide) (by rw [c65]; rfl) (by decide) ?_
    refine x_aload_n dX12_qAsksWord_152 rfl 0 rfl ?_
    refine x_aload_n dX12_qAsksWord_153 rfl 0 rfl ?_
    obtain ⟨c66, H⟩ := ko_o H
    obtain ⟨a67, c68, H⟩ := kr_o H
    refine x_getR fr_X12_195 dX12_qAsksWord_154 c66 rfl c68 ?_
    obtain ⟨v69, h70, hc71, H⟩ := bd_o H
    refine x_callVv (As := [.ref a67]) (q := (RX12, TX12, 103)) dX12_qAsksWord_157 mi_X12_asks lk_X12_290 im_X12_asks se_X12_asks rfl c66 rfl rfl (Nat.le_of_ble_eq_true rfl) (t_X12_asks (by omega) hc71) ?_
    refine x_goto (tgt := 204) dX12_qAsksWord_160 (by decide) ?_
    refine Ex.sub [] rfl ?_
    exact t_X12_qAsksWord_204 hd H
  replace H := ite_m H c65
  by_cases c72 : x1 = 9
  · replace H := ite_p H c72
    refine x_tableIn (tgt := 163) dX12_qAsksWord_1 (by rw [c72]; decide) (by rw [c72]; decide) (by rw [c72]; rfl) (by decide) ?_
    refine x_aload_n dX12_qAsksWord_163 rfl 0 rfl ?_
    refine x_aload_n dX12_qAsksWord_164 rfl 0 rfl ?_
    obtain ⟨c73, H⟩ := ko_o H
    obtain ⟨a74, c75, H⟩ := kr_o H
    refine x_getR fr_X12_198 dX12_qAsksWord_165 c73 rfl c75 ?_
    obtain ⟨v76, h77, hc78, H⟩ := bd_o H
    refine x_callVv (As := [.ref a74]) (q := (RX12, TX12, 103)) dX12_qAsksWord_168 mi_X12_asks lk_X12_290 im_X12_asks se_X12_asks rfl c73 rfl rfl (Nat.le_of_ble_eq_true rfl) (t_X12_asks (by omega) hc78) ?_
    refine x_goto (tgt := 204) dX12_qAsksWord_171 (by decide) ?_
    refine Ex.sub [] rfl ?_
    exact t_X12_qAsksWord_204 hd H
  replace H := ite_m H c72
  by_cases c79 : x1 = 10
  · replace H := ite_p H c79
    refine x_tableIn (tgt := 174) dX12_qAsksWord_1 (by rw [c79]; decide) (by rw [c79]; decide) (by rw [c79]; rfl) (by decide) ?_
    refine x_aload_n dX12_qAsksWord_174 rfl 0 rfl ?_
    refine x_aload_n dX12_qAsksWord_175 rfl 0 rfl ?_
    obtain ⟨c80, H⟩ := ko_o H
    obtain ⟨a81, c82, H⟩ := kr_o H
    refine x_getR fr_X12_201 dX12_qAsksWord_176 c80 rfl c82 ?_
    obtain ⟨v83, h84, hc85, H⟩ := bd_o H
    refine x_callVv (As := [.ref a81]) (q := (RX12, TX12, 103)) dX12_qAsksWord_179 mi_X12_asks lk_X12_290 im_X12_asks se_X12_asks rfl c80 rfl rfl (Nat.le_of_ble_eq_true rfl) (t_X12_asks (by omega) hc85) ?_
    refine x_goto (tgt := 204) dX12_qAsksWord_182 (by decide) ?_
    refine Ex.sub [] rfl ?_
    exact t_X12_qAsksWord_204 hd H
  replace H := ite_m H c79
  by_cases c86 : x1 = 11
  · replace H := ite_p H c86
    refine x_tableIn (tgt := 185) dX12_qAsksWord_1 (by rw [c86]; decide) (by rw [c86]; decide) (by rw [c86]; rfl) (by decide) ?_
    refine x_aload_n dX12_qAsksWord_185 rfl 0 rfl ?_
    refine x_aload_n dX12_qAsksWord_186 rfl 0 rfl ?_
    obtain ⟨c87, H⟩ := ko_o H
    obtain ⟨a88, c89, H⟩ := kr_o H
    refine x_getR fr_X12_204 dX12_qAsksWord_187 c87 rfl c89 ?_
    obtain ⟨v90, h91, hc92, H⟩ := bd_o H
    refine x_callVv (As := [.ref a88]) (q := (RX12, TX12, 103)) dX12_qAsksWord_190 mi_X12_asks lk_X12_290 im_X12_asks se_X12_asks rfl c87 rfl rfl (Nat.le_of_ble_eq_true rfl) (t_X12_asks (by omega) hc92) ?_
    refine x_goto (tgt := 204) dX12_qAsksWord_193 (by decide) ?_
    refine Ex.sub [] rfl ?_
    exact t_X12_qAsksWord_204 hd H
  replace H := ite_m H c86
  cases H
def f_X12_qOpens (x0 : Nat) (x1 : Int32) (x2 : Int32) (h : aH) : Option (Unit × aH) :=
  ko h x0 11 <|
  if (hI h x0 5) = 0 then
    if (hI h x0 95) = 6 then
      bd (f_X12_fail x0 4 x2 h) fun _ h12 =>
      some ((), h12)
    else
      kr (hR h x0 93) fun a4 =>
      nm (hI (sI h x0 95 ((hI h x0 95) + 1)) x0 94) fun (v6 : Int32) =>
      ka h a4 .int fun n8 =>
      chk (inb v6 n8 = true) <|
      nm (hI (sI (sI h x0 95 ((hI h x0 95) + 1)) a4 v6.toNatClampNeg x1) x0 94) fun (v10 : Int32) =>
      some ((), sI (sI (sI h x0 95 ((hI h x0 95) + 1)) a4 v6.toNatClampNeg x1) x0 94 (v10 + 1))
  else
    some ((), h)
set_option maxRecDepth 100000 in
set_option maxHeartbeats 4000000 in
theorem t_X12_qOpens {Γ : gS} {d : Nat} (hd : 1 ≤ d) {x0 : Nat} {x1 : Int32} {x2 : Int32} {h : aH} {r : Unit} {h' : aH} (H : f_X12_qOpens x0 x1 x2 h = some (r, h')) : Mx Γ gX12_qOpens d [.ref x0, .int x1, .int x2] h none h' := by
  refine Mx.of (by decide +kernel) (Nat.le_of_ble_eq_true rfl) ?_
  unfold f_X12_qOpens at H
  show Ex Γ gX12_qOpens d 0 [(0, .ref x0), (1, .int x1), (2, .int x2)] [] h none h'
  obtain ⟨d, rfl⟩ : ∃ e, d = e + 1 := ⟨d - 1, by omega⟩
  refine x_aload_n dX12_qOpens_0 rfl 0 rfl ?_
  obtain ⟨c1, H⟩ := ko_o H
  refine x_getI fr_X12_225 dX12_qOpens_1 c1 rfl ?_
  refine x_if_eq (tgt := 8) dX12_qOpens_4 (by decide) (fun c2 => ?_) (fun c2 => ?_)
  · replace H := ite_p H c2
    refine x_aload_n dX12_qOpens_8 rfl 0 rfl ?_
    refine x_getI fr_X12_312 dX12_qOpens_9 c1 rfl ?_
    refine x_bipush (v := 6) dX12_qOpens_12 (by decide) ?_
    refine x_icmp_ne (tgt := 24) dX12_qOpens_14 (by decide) (fun c3 => ?_) (fun c3 => ?_)
    · replace H := ite_m H c3
      refine x_aload_n dX12_qOpens_24 rfl 0 rfl ?_
      refine x_dup dX12_qOpens_25 rfl ?_
      refine x_getI fr_X12_312 dX12_qOpens_26 c1 rfl ?_
      refine x_iconst (v := 1) dX12_qOpens_29 (by decide) ?_
      refine x_iadd dX12_qOpens_30 ?_
      refine x_putI fl_X12_312 dX12_qOpens_31 c1 (fun e => by cases e) rfl ?_
      refine x_aload_n dX12_qOpens_34 rfl 0 rfl ?_
      obtain ⟨a4, c5, H⟩ := kr_o H
      refine x_getR fr_X12_213 dX12_qOpens_35 c1 rfl c5 ?_
      refine x_aload_n dX12_qOpens_38 rfl 0 rfl ?_
      obtain ⟨v6, ev6, H⟩ := nm_o H
      refine x_getIe fr_X12_309 dX12_qOpens_39 c1 rfl ev6 ?_
      refine x_iload_n dX12_qOpens_42 rfl 1 rfl ?_
      obtain ⟨n8, c7, H⟩ := ka_o H
      obtain ⟨c9, H⟩ := chk_o H
      refine x_iast dX12_qOpens_43 c7 (inb_in.mp c9) ?_
      refine x_aload_n dX12_qOpens_44 rfl 0 rfl ?_
      refine x_dup dX12_qOpens_45 rfl ?_
      obtain ⟨v10, ev10, H⟩ := nm_o H
      refine x_getIe fr_X12_309 dX12_qOpens_46 c1 rfl ev10 ?_
      refine x_iconst (v := 1) dX12_qOpens_49 (by decide) ?_
      refine x_iadd dX12_qOpens_50 ?_
      refine x_putI fl_X12_309 dX12_qOpens_51 c1 (fun e => by cases e) rfl ?_
      obtain ⟨-, rfl⟩ := so_1 H
      exact x_vret dX12_qOpens_54 rfl
    · replace H := ite_p H c3
      refine x_aload_n dX12_qOpens_17 rfl 0 rfl ?_
      refine x_iconst (v := 4) dX12_qOpens_18 (by decide) ?_
      refine x_iload_n dX12_qOpens_19 rfl 2 rfl ?_
      obtain ⟨v11, h12, hc13, H⟩ := bd_o H
      refine x_callVv (As := [.int 4, .int x2]) (q := (RX12, TX12, 103)) dX12_qOpens_20 mi_X12_fail lk_X12_255 im_X12_fail se_X12_fail rfl c1 rfl rfl (Nat.le_of_ble_eq_true rfl) (t_X12_fail (by omega) hc13) ?_
      obtain ⟨-, rfl⟩ := so_1 H
      exact x_vret dX12_qOpens_23 rfl
  · replace H := ite_m H c2
    obtain ⟨-, rfl⟩ := so_1 H
    exact x_vret dX12_qOpens_7 rfl
def f_X12_qWordHere (x0 : Nat) (h : aH) : Option (Int32 × aH) :=
  ko h x0 11 <|
  kr (hR h x0 78) fun a2 =>
  bd (f_X12_isHere x0 a2 h) fun v4 h5 =>
  if v4 = 0 then
    ko h5 x0 11 <|
    kr (hR h5 x0 79) fun a9 =>
    bd (f_X12_isHere x0 a9 h5) fun v11 h12 =>
    if v11 = 0 then
      ko h12 x0 11 <|
      kr (hR h12 x0 80) fun a16 =>
      bd (f_X12_isHere x0 a16 h12) fun v18 h19 =>
      if v18 = 0 then
        ko h19 x0 11 <|
        kr (hR h19 x0 81) fun a23 =>
        bd (f_X12_isHere x0 a23 h19) fun v25 h26 =>
        if v25 = 0 then
          ko h26 x0 11 <|
          kr (hR h26 x0 82) fun a30 =>
          bd (f_X12_isHere x0 a30 h26) fun v32 h33 =>
          if v32 = 0 then
            ko h33 x0 11 <|
            kr (hR h33 x0 83) fun a37 =>
            bd (f_X12_isHere x0 a37 h33) fun v39 h40 =>
            if v39 = 0 then
              ko h40 x0 11 <|
              kr (hR h40 x0 84) fun a44 =>
              bd (f_X12_isHere x0 a44 h40) fun v46 h47 =>
              if v46 = 0 then
                ko h47 x0 11 <|
                kr (hR h47 x0 85) fun a51 =>
                bd (f_X12_isHere x0 a51 h47) fun v53 h54 =>
                if v53 = 0 then
                  ko h54 x0 11 <|
                  kr (hR h54 x0 86) fun a58 =>
                  bd (f_X12_isHere x0 a58 h54) fun v60 h61 =>
                  if v60 = 0 then
                    ko h61 x0 11 <|
                    kr (hR h61 x0 87) fun a65 =>
                    bd (f_X12_isHere x0 a65 h61) fun v67 h68 =>
                    if v67 = 0 then
                      ko h68 x0 11 <|
                      kr (hR h68 x0 88) fun a72 =>
                      bd (f_X12_isHere x0 a72 h68) fun v74 h75 =>
                      if v74 = 0 then
                        ko h75 x0 11 <|
                        kr (hR h75 x0 89) fun a79 =>
                        bd (f_X12_isHere x0 a79 h75) fun v81 h82 =>
                        if v81 = 0 then
                          ko h82 x0 11 <|
                          kr (hR h82 x0 90) fun a86 =>
                          bd (f_X12_isHere x0 a86 h82) fun v88 h89 =>
                          if v88 = 0 then
                            some ((-1), h89)
                          else
                            some (12, h89)
                        else
                          some (11, h82)
                      else
                        some (10, h75)
                    else
                      some (9, h68)
                  else
                    some (8, h61)
                else
                  some (7, h54)
              else
                some (6, h47)
            else
              some (5, h40)
          else
            some (4, h33)
        else
          some (3, h26)
      else
        some (2, h19)
    else
      some (1, h12)
  else
    some (0, h5)
set_option maxRecDepth 100000 in
set_option maxHeartbeats 4000000 in
theorem t_X12_qWordHere {Γ : gS} {d : Nat} (hd : 2 ≤ d) {x0 : Nat} {h : aH} {r : Int32} {h' : aH} (H : f_X12_qWordHere x0 h = some (r, h')) : Mx Γ gX12_qWordHere d [.ref x0] h (some (.int r)) h' := by
  refine Mx.of (by decide +kernel) (Nat.le_of_ble_eq_true rfl) ?_
  unfold f_X12_qWordHere at H
  show Ex Γ gX12_qWordHere d 0 [(0, .ref x0)] [] h (some (.int r)) h'
  obtain ⟨d, rfl⟩ : ∃ e, d = e + 1 := ⟨d - 1, by omega⟩
  refine x_aload_n dX12_qWordHere_0 rfl 0 rfl ?_
  refine x_aload_n dX12_qWordHere_1 rfl 0 rfl ?_
  obtain ⟨c1, H⟩ := ko_o H
  obtain ⟨a2, c3, H⟩ := kr_o H
  refine x_getR fr_X12_171 dX12_qWordHere_2 c1 rfl c3 ?_
  obtain ⟨v4, h5, hc6, H⟩ := bd_o H
  refine x_callVi (As := [.ref a2]) (q := (RX12, TX12, 103)) dX12_qWordHere_5 mi_X12_isHere lk_X12_248 im_X12_isHere se_X12_isHere rfl c1 rfl rfl (Nat.le_of_ble_eq_true rfl) (t_X12_isHere (by omega) hc6) ?_
  refine x_if_eq (tgt := 13) dX12_qWordHere_8 (by decide) (fun c7 => ?_) (fun c7 => ?_)
  · replace H := ite_p H c7
    refine x_aload_n dX12_qWordHere_13 rfl 0 rfl ?_
    refine x_aload_n dX12_qWordHere_14 rfl 0 rfl ?_
    obtain ⟨c8, H⟩ := ko_o H
    obtain ⟨a9, c10, H⟩ := kr_o H
    refine x_getR fr_X12_174 dX12_qWordHere_15 c8 rfl c10 ?_
    obtain ⟨v11, h12, hc13, H⟩ := bd_o H
    refine x_callVi (As := [.ref a9]) (q := (RX12, TX12, 103)) dX12_qWordHere_18 mi_X12_isHere lk_X12_248 im_X12_isHere se_X12_isHere rfl c8 rfl rfl (Nat.le_of_ble_eq_true rfl) (t_X12_isHere (by omega) hc13) ?_
    refine x_if_eq (tgt := 26) dX12_qWordHere_21 (by decide) (fun c14 => ?_) (fun c14 => ?_)
    · replace H := ite_p H c14
      refine x_aload_n dX12_qWordHere_26 rfl 0 rfl ?_
      refine x_aload_n dX12_qWordHere_27 rfl 0 rfl ?_
      obtain ⟨c15, H⟩ := ko_o H
      obtain ⟨a16, c17, H⟩ := kr_o H
      refine x_getR fr_X12_177 dX12_qWordHere_28 c15 rfl c17 ?_
      obtain ⟨v18, h19, hc20, H⟩ := bd_o H
      refine x_callVi (As := [.ref a16]) (q := (RX12, TX12, 103)) dX12_qWordHere_31 mi_X12_isHere lk_X12_248 im_X12_isHere se_X12_isHere rfl c15 rfl rfl (Nat.le_of_ble_eq_true rfl) (t_X12_isHere (by omega) hc20) ?_
      refine x_if_eq (tgt := 39) dX12_qWordHere_34 (by decide) (fun c21 => ?_) (fun c21 => ?_)
      · replace H := ite_p H c21
        refine x_aload_n dX12_qWordHere_39 rfl 0 rfl ?_
        refine x_aload_n dX12_qWordHere_40 rfl 0 rfl ?_
        obtain ⟨c22, H⟩ := ko_o H
        obtain ⟨a23, c24, H⟩ := kr_o H
        refine x_getR fr_X12_180 dX12_qWordHere_41 c22 rfl c24 ?_
        obtain ⟨v25, h26, hc27, H⟩ := bd_o H
        refine x_callVi (As := [.ref a23]) (q := (RX12, TX12, 103)) dX12_qWordHere_44 mi_X12_isHere lk_X12_248 im_X12_isHere se_X12_isHere rfl c22 rfl rfl (Nat.le_of_ble_eq_true rfl) (t_X12_isHere (by omega) hc27) ?_
        refine x_if_eq (tgt := 52) dX12_qWordHere_47 (by decide) (fun c28 => ?_) (fun c28 => ?_)
        · replace H := ite_p H c28
          refine x_aload_n dX12_qWordHere_52 rfl 0 rfl ?_
          refine x_aload_n dX12_qWordHere_53 rfl 0 rfl ?_
          obtain ⟨c29, H⟩ := ko_o H
          obtain ⟨a30, c31, H⟩ := kr_o H
          refine x_getR fr_X12_183 dX12_qWordHere_54 c29 rfl c31 ?_
          obtain ⟨v32, h33, hc34, H⟩ := bd_o H
          refine x_callVi (As := [.ref a30]) (q := (RX12, TX12, 103)) dX12_qWordHere_57 mi_X12_isHere lk_X12_248 im_X12_isHere se_X12_isHere rfl c29 rfl rfl (Nat.le_of_ble_eq_true rfl) (t_X12_isHere (by omega) hc34) ?_
          refine x_if_eq (tgt := 65) dX12_qWordHere_60 (by decide) (fun c35 => ?_) (fun c35 => ?_)
          · replace H := ite_p H c35
            refine x_aload_n dX12_qWordHere_65 rfl 0 rfl ?_
            refine x_aload_n dX12_qWordHere_66 rfl 0 rfl ?_
            obtain ⟨c36, H⟩ := ko_o H
            obtain ⟨a37, c38, H⟩ := kr_o H
            refine x_getR fr_X12_186 dX12_qWordHere_67 c36 rfl c38 ?_
            obtain ⟨v39, h40, hc41, H⟩ := bd_o H
            refine x_callVi (As := [.ref a37]) (q := (RX12, TX12, 103)) dX12_qWordHere_70 mi_X12_isHere lk_X12_248 im_X12_isHere se_X12_isHere rfl c36 rfl rfl (Nat.le_of_ble_eq_true rfl) (t_X12_isHere (by omega) hc41) ?_
            refine x_if_eq (tgt := 78) dX12_qWordHere_73 (by decide) (fun c42 => ?_) (fun c42 => ?_)
            · replace H := ite_p H c42
              refine x_aload_n dX12_qWordHere_78 rfl 0 rfl ?_
              refine x_aload_n dX12_qWordHere_79 rfl 0 rfl ?_
              obtain ⟨c43, H⟩ := ko_o H
              obtain ⟨a44, c45, H⟩ := kr_o H
              refine x_getR fr_X12_189 dX12_qWordHere_80 c43 rfl c45 ?_
              obtain ⟨v46, h47, hc48, H⟩ := bd_o H
              refine x_callVi (As := [.ref a44]) (q := (RX12, TX12, 103)) dX12_qWordHere_83 mi_X12_isHere lk_X12_248 im_X12_isHere se_X12_isHere rfl c43 rfl rfl (Nat.le_of_ble_eq_true rfl) (t_X12_isHere (by omega) hc48) ?_
              refine x_if_eq (tgt := 92) dX12_qWordHere_86 (by decide) (fun c49 => ?_) (fun c49 => ?_)
              · replace H := ite_p H c49
                refine x_aload_n dX12_qWordHere_92 rfl 0 rfl ?_
                refine x_aload_n dX12_qWordHere_93 rfl 0 rfl ?_
                obtain ⟨c50, H⟩ := ko_o H
                obtain ⟨a51, c52, H⟩ := kr_o H
                refine x_getR fr_X12_192 dX12_qWordHere_94 c50 rfl c52 ?_
                obtain ⟨v53, h54, hc55, H⟩ := bd_o H
                refine x_callVi (As := [.ref a51]) (q := (RX12, TX12, 103)) dX12_qWordHere_97 mi_X12_isHere lk_X12_248 im_X12_isHere se_X12_isHere rfl c50 rfl rfl (Nat.le_of_ble_eq_true rfl) (t_X12_isHere (by omega) hc55) ?_
                refine x_if_eq (tgt := 106) dX12_qWordHere_100 (by decide) (fun c56 => ?_) (fun c56 => ?_)
                · replace H := ite_p H c56
                  refine x_aload_n dX12_qWordHere_106 rfl 0 rfl ?_
                  refine x_aload_n dX12_qWordHere_107 rfl 0 rfl ?_
                  obtain ⟨c57, H⟩ := ko_o H
                  obtain ⟨a58, c59, H⟩ := kr_o H
                  refine x_getR fr_X12_195 dX12_qWordHere_108 c57 rfl c59 ?_
                  obtain ⟨v60, h61, hc62, H⟩ := bd_o H
                  refine x_callVi (As := [.ref a58]) (q := (RX12, TX12, 103)) dX12_qWordHere_111 mi_X12_isHere lk_X12_248 im_X12_isHere se_X12_isHere rfl c57 rfl rfl (Nat.le_of_ble_eq_true rfl) (t_X12_isHere (by omega) hc62) ?_
                  refine x_if_eq (tgt := 120) dX12_qWordHere_114 (by decide) (fun c63 => ?_) (fun c63 => ?_)
                  · replace H := ite_p H c63
                    refine x_aload_n dX12_qWordHere_120 rfl 0 rfl ?_
                    refine x_aload_n dX12_qWordHere_121 rfl 0 rfl ?_
                    obtain ⟨c64, H⟩ := ko_o H
                    obtain ⟨a65, c66, H⟩ := kr_o H
                    refine x_getR fr_X12_198 dX12_qWordHere_122 c64 rfl c66 ?_
                    obtain ⟨v67, h68, hc69, H⟩ := bd_o H
                    refine x_callVi (As := [.ref a65]) (q := (RX12, TX12, 103)) dX12_qWordHere_125 mi_X12_isHere lk_X12_248 im_X12_isHere se_X12_isHere rfl c64 rfl rfl (Nat.le_of_ble_eq_true rfl) (t_X12_isHere (by omega) hc69) ?_
                    refine x_if_eq (tgt := 134) dX12_qWordHere_128 (by decide) (fun c70 => ?_) (fun c70 => ?_)
                    · replace H := ite_p H c70
                      refine x_aload_n dX12_qWordHere_134 rfl 0 rfl ?_
                      refine x_aload_n dX12_qWordHere_135 rfl 0 rfl ?_
                      obtain ⟨c71, H⟩ := ko_o H
                      obtain ⟨a72, c73, H⟩ := kr_o H
                      refine x_getR fr_X12_201 dX12_qWordHere_136 c71 rfl c73 ?_
                      obtain ⟨v74, h75, hc76, H⟩ := bd_o H
                      refine x_callVi (As := [.ref a72]) (q := (RX12, TX12, 103)) dX12_qWordHere_139 mi_X12_isHere lk_X12_248 im_X12_isHere se_X12_isHere rfl c71 rfl rfl (Nat.le_of_ble_eq_true rfl) (t_X12_isHere (by omega) hc76) ?_
                      refine x_if_eq (tgt := 148) dX12_qWordHere_142 (by decide) (fun c77 => ?_) (fun c77 => ?_)
                      · replace H := ite_p H c77
                        refine x_aload_n dX12_qWordHere_148 rfl 0 rfl ?_
                        refine x_aload_n dX12_qWordHere_149 rfl 0 rfl ?_
                        obtain ⟨c78, H⟩ := ko_o H
                        obtain ⟨a79, c80, H⟩ := kr_o H
                        refine x_getR fr_X12_204 dX12_qWordHere_150 c78 rfl c80 ?_
                        obtain ⟨v81, h82, hc83, H⟩ := bd_o H
                        refine x_callVi (As := [.ref a79]) (q := (RX12, TX12, 103)) dX12_qWordHere_153 mi_X12_isHere lk_X12_248 im_X12_isHere se_X12_isHere rfl c78 rfl rfl (Nat.le_of_ble_eq_true rfl) (t_X12_isHere (by omega) hc83) ?_
                        refine x_if_eq (tgt := 162) dX12_qWordHere_156 (by decide) (fun c84 => ?_) (fun c84 => ?_)
                        · replace H := ite_p H c84
                          refine x_aload_n dX12_qWordHere_162 rfl 0 rfl ?_
                          refine x_aload_n dX12_qWordHere_163 rfl 0 rfl ?_
                          obtain ⟨c85, H⟩ := ko_o H
                          obtain ⟨a86, c87, H⟩ := kr_o H
                          refine x_getR fr_X12_207 dX12_qWordHere_164 c85 rfl c87 ?_
                          obtain ⟨v88, h89, hc90, H⟩ := bd_o H
                          refine x_callVi (As := [.ref a86]) (q := (RX12, TX12, 103)) dX12_qWordHere_167 mi_X12_isHere lk_X12_248 im_X12_isHere se_X12_isHere rfl c85 rfl rfl (Nat.le_of_ble_eq_true rfl) (t_X12_isHere (by omega) hc90) ?_
                          refine x_if_eq (tgt := 176) dX12_qWordHere_170 (by decide) (fun c91 => ?_) (fun c91 => ?_)
                          · replace H := ite_p H c91
                            refine x_iconst (v := (-1)) dX12_qWordHere_176 (by decide) ?_
                            obtain ⟨rfl, rfl⟩ := so_1 H
                            exact x_iret dX12_qWordHere_177 rfl rfl
                          · replace H := ite_m H c91
                            refine x_bipush (v := 12) dX12_qWordHere_173 (by decide) ?_
                            obtain ⟨rfl, rfl⟩ := so_1 H
                            exact x_iret dX12_qWordHere_175 rfl rfl
                        · replace H := ite_m H c84
                          refine x_bipush (v := 11) dX12_qWordHere_159 (by decide) ?_
                          obtain ⟨rfl, rfl⟩ := so_1 H
                          exact x_iret dX12_qWordHere_161 rfl rfl
                      · replace H := ite_m H c77
                        refine x_bipush (v := 10) dX12_qWordHere_145 (by decide) ?_
                        obtain ⟨rfl, rfl⟩ := so_1 H
                        exact x_iret dX12_qWordHere_147 rfl rfl
                    · replace H := ite_m H c70
                      refine x_bipush (v := 9) dX12_qWordHere_131 (by decide) ?_
                      obtain ⟨rfl, rfl⟩ := so_1 H
                      exact x_iret dX12_qWordHere_133 rfl rfl
                  · replace H := ite_m H c63
                    refine x_bipush (v := 8) dX12_qWordHere_117 (by decide) ?_
                    obtain ⟨rfl, rfl⟩ := so_1 H
                    exact x_iret dX12_qWordHere_119 rfl rfl
                · replace H := ite_m H c56
                  refine x_bipush (v := 7) dX12_qWordHere_103 (by decide) ?_
                  obtain ⟨rfl, rfl⟩ := so_1 H
                  exact x_iret dX12_qWordHere_105 rfl rfl
              · replace H := ite_m H c49
                refine x_bipush (v := 6) dX12_qWordHere_89 (by decide) ?_
                obtain ⟨rfl, rfl⟩ := so_1 H
                exact x_iret dX12_qWordHere_91 rfl rfl
            · replace H := ite_m H c42
              refine x_iconst (v := 5) dX12_qWordHere_76 (by decide) ?_
              obtain ⟨rfl, rfl⟩ := so_1 H
              exact x_iret dX12_qWordHere_77 rfl rfl
          · replace H := ite_m H c35
            refine x_iconst (v := 4) dX12_qWordHere_63 (by decide) ?_
            obtain ⟨rfl, rfl⟩ := so_1 H
            exact x_iret dX12_qWordHere_64 rfl rfl
        · replace H := ite_m H c28
          refine x_iconst (v := 3) dX12_qWordHere_50 (by decide) ?_
          obtain ⟨rfl, rfl⟩ := so_1 H
          exact x_iret dX12_qWordHere_51 rfl rfl
      · replace H := ite_m H c21
        refine x_iconst (v := 2) dX12_qWordHere_37 (by decide) ?_
        obtain ⟨rfl, rfl⟩ := so_1 H
        exact x_iret dX12_qWordHere_38 rfl rfl
    · replace H := ite_m H c14
      refine x_iconst (v := 1) dX12_qWordHere_24 (by decide) ?_
      obtain ⟨rfl, rfl⟩ := so_1 H
      exact x_iret dX12_qWordHere_25 rfl rfl
  · replace H := ite_m H c7
    refine x_iconst (v := 0) dX12_qWordHere_11 (by decide) ?_
    obtain ⟨rfl, rfl⟩ := so_1 H
    exact x_iret dX12_qWordHere_12 rfl rfl
def f_X12_qWordOf_28 (s0 : Int32) (h : aH) : Option (Int32 × aH) :=
  some (s0, h)
set_option maxRecDepth 100000 in
set_option maxHeartbeats 4000000 in
theorem t_X12_qWordOf_28 {Γ : gS} {d : Nat} (hd : 3 ≤ d) {s0 : Int32} {h : aH} {r : Int32} {h' : aH} (H : f_X12_qWordOf_28 s0 h = some (r, h')) : Ex Γ gX12_qWordOf d 28 [] [.int s0] h (some (.int r)) h' := by
  unfold f_X12_qWordOf_28 at H
  obtain ⟨d, rfl⟩ : ∃ e, d = e + 1 := ⟨d - 1, by omega⟩
  obtain ⟨rfl, rfl⟩ := so_1 H
  exact x_iret dX12_qWordOf_28 rfl rfl
def f_X12_qWordOf_27 (h : aH) : Option (Int32 × aH) :=
  f_X12_qWordOf_28 (-1) h
set_option maxRecDepth 100000 in
set_option maxHeartbeats 4000000 in
theorem t_X12_qWordOf_27 {Γ : gS} {d : Nat} (hd : 3 ≤ d) {h : aH} {r : Int32} {h' : aH} (H : f_X12_qWordOf_27 h = some (r, h')) : Ex Γ gX12_qWordOf d 27 [] [] h (some (.int r)) h' := by
  unfold f_X12_qWordOf_27 at H
  obtain ⟨d, rfl⟩ : ∃ e, d = e + 1 := ⟨d - 1, by omega⟩
  refine x_iconst (v := (-1)) dX12_qWordOf_27 (by decide) ?_
  exact t_X12_qWordOf_28 hd H
def f_X12_qWordOf (x0 : Nat) (x1 : Int32) (x2 : Int32) (h : aH) : Option (Int32 × aH) :=
  ko h x0 11 <|
  bd (f_X12_qWordHere x0 h) fun v1 h2 =>
  if v1 < x1 then
    f_X12_qWordOf_27 h2
  else
    if x2 ≤ v1 then
      f_X12_qWordOf_27 h2
    else
      ko h2 x0 11 <|
      bd (f_X12_isAllowed x0 v1 h2) fun v6 h7 =>
      if v6 = 0 then
        f_X12_qWordOf_27 h7
      else
        f_X12_qWordOf_28 v1 h7
set_option maxRecDepth 100000 in
set_option maxHeartbeats 4000000 in
theorem t_X12_qWordOf {Γ : gS} {d : Nat} (hd : 3 ≤ d) {x0 : Nat} {x1 : Int32} {x2 : Int32} {h : aH} {r : Int32} {h' : aH} (H : f_X12_qWordOf x0 x1 x2 h = some (r, h')) : Mx Γ gX12_qWordOf d [.ref x0, .int x1, .int x2] h (some (.int r)) h' := by
  refine Mx.of (by decide +kernel) (Nat.le_of_ble_eq_true rfl) ?_
  unfold f_X12_qWordOf at H
  show Ex Γ gX12_qWordOf d 0 [(0, .ref x0), (1, .int x1), (2, .int x2)] [] h (some (.int r)) h'
  obtain ⟨d, rfl⟩ : ∃ e, d = e + 1 := ⟨d - 1, by omega⟩
  refine x_aload_n dX12_qWordOf_0 rfl 0 rfl ?_
  obtain ⟨c11, H⟩ := ko_o H
  obtain ⟨v1, h2, hc3, H⟩ := bd_o H
  refine x_callVi (As := []) (q := (RX12, TX12, 103)) dX12_qWordOf_1 mi_X12_qWordHere lk_X12_584 im_X12_qWordHere se_X12_qWordHere rfl c11 rfl rfl (Nat.le_of_ble_eq_true rfl) (t_X12_qWordHere (by omega) hc3) ?_
  refine x_istore_n (lv' := [(3, .int v1), (0, .ref x0), (1, .int x1), (2, .int x2)]) dX12_qWordOf_4 rfl (by decide) rfl rfl ?_
  refine x_iload_n dX12_qWordOf_5 rfl 0 rfl ?_
  refine x_iload_n dX12_qWordOf_6 rfl 2 rfl ?_
  refine x_icmp_lt (tgt := 27) dX12_qWordOf_7 (by decide) (fun c4 => ?_) (fun c4 => ?_)
  · replace H := ite_p H c4
    refine Ex.sub [] rfl ?_
    exact t_X12_qWordOf_27 hd H
  · replace H := ite_m H c4
    refine x_iload_n dX12_qWordOf_10 rfl 0 rfl ?_
    refine x_iload_n dX12_qWordOf_11 rfl 3 rfl ?_
    refine x_icmp_ge (tgt := 27) dX12_qWordOf_12 (by decide) (fun c5 => ?_) (fun c5 => ?_)
    · replace H := ite_p H c5
      refine Ex.sub [] rfl ?_
      exact t_X12_qWordOf_27 hd H
    · replace H := ite_m H c5
      refine x_aload_n dX12_qWordOf_15 rfl 1 rfl ?_
      refine x_iload_n dX12_qWordOf_16 rfl 0 rfl ?_
      obtain ⟨c10, H⟩ := ko_o H
      obtain ⟨v6, h7, hc8, H⟩ := bd_o H
      refine x_callVi (As := [.int v1]) (q := (RX12, TX12, 103)) dX12_qWordOf_17 mi_X12_isAllowed lk_X12_587 im_X12_isAllowed se_X12_isAllowed rfl c10 rfl rfl (Nat.le_of_ble_eq_true rfl) (t_X12_isAllowed (by omega) hc8) ?_
      refine x_if_eq (tgt := 27) dX12_qWordOf_20 (by decide) (fun c9 => ?_) (fun c9 => ?_)
      · replace H := ite_p H c9
        refine Ex.sub [] rfl ?_
        exact t_X12_qWordOf_27 hd H
      · replace H := ite_m H c9
        refine x_iload_n dX12_qWordOf_23 rfl 0 rfl ?_
        refine x_goto (tgt := 28) dX12_qWordOf_24 (by decide) ?_
        refine Ex.sub [] rfl ?_
        exact t_X12_qWordOf_28 hd H
def f_X12_qPartTold_183 (k2 : Nat → Int32 → aH → Option (Unit × aH)) (x0 : Nat) (x1 : Int32) (h : aH) : Option (Unit × aH) :=
  k2 x0 x1 h
set_option maxRecDepth 100000 in
set_option maxHeartbeats 4000000 in
theorem t_X12_qPartTold_183 {Γ : gS} {d : Nat} (hd : 5 ≤ d) {k2 : Nat → Int32 → aH → Option (Unit × aH)} (hk2 : ∀ {x0 : Nat} {x1 : Int32} {h : aH} {r : Unit} {h' : aH}, k2 x0 x1 h = some (r, h') → Ex Γ gX12_qPartTold d 2 [(0, .ref x0), (1, .int x1)] [] h none h') {x0 : Nat} {x1 : Int32} {h : aH} {r : Unit} {h' : aH} (H : f_X12_qPartTold_183 k2 x0 x1 h = some (r, h')) : Ex Γ gX12_qPartTold d 183 [(0, .ref x0), (1, .int x1)] [] h none h' := by
  unfold f_X12_qPartTold_183 at H
  obtain ⟨d, rfl⟩ : ∃ e, d = e + 1 := ⟨d - 1, by omega⟩
  refine x_goto (tgt := 2) dX12_qPartTold_183 (by decide) ?_
  exact hk2 H
def f_X12_qPartTold_144 (k2 : Nat → Int32 → aH → Option (Unit × aH)) (x0 : Nat) (x1 : Int32) (h : aH) : Option (Unit × aH) :=
  ko h x0 11 <|
  bd (f_X12_asksSign x0 40 h) fun _ h2 =>
  f_X12_qPartTold_183 k2 x0 x1 h2
set_option maxRecDepth 100000 in
set_option maxHeartbeats 4000000 in
theorem t_X12_qPartTold_144 {Γ : gS} {d : Nat} (hd : 5 ≤ d) {k2 : Nat → Int32 → aH → Option (Unit × aH)} (hk2 : ∀ {x0 : Nat} {x1 : Int32} {h : aH} {r : Unit} {h' : aH}, k2 x0 x1 h = some (r, h') → Ex Γ gX12_qPartTold d 2 [(0, .ref x0), (1, .int x1)] [] h none h') {x0 : Nat} {x1 : Int32} {h : aH} {r : Unit} {h' : aH} (H : f_X12_qPartTold_144 k2 x0 x1 h = some (r, h')) : Ex Γ gX12_qPartTold d 144 [(0, .ref x0), (1, .int x1)] [] h none h' := by
  unfold f_X12_qPartTold_144 at H
  obtain ⟨d, rfl⟩ : ∃ e, d = e + 1 := ⟨d - 1, by omega⟩
  refine x_aload_n dX12_qPartTold_144 rfl 0 rfl ?_
  refine x_bipush (v := 40) dX12_qPartTold_145 (by decide) ?_
  obtain ⟨c4, H⟩ := ko_o H
  obtain ⟨v1, h2, hc3, H⟩ := bd_o H
  refine x_callVv (As := [.int 40]) (q := (RX12, TX12, 103)) dX12_qPartTold_147 mi_X12_asksSign lk_X12_298 im_X12_asksSign se_X12_asksSign rfl c4 rfl rfl (Nat.le_of_ble_eq_true rfl) (t_X12_asksSign (by omega) hc3) ?_
  refine x_goto (tgt := 183) dX12_qPartTold_150 (by decide) ?_
  exact t_X12_qPartTold_183 hd hk2 H
def f_X12_qPartTold_139 (k2 : Nat → Int32 → aH → Option (Unit × aH)) (x0 : Nat) (x1 : Int32) (x5 : Int32) (s0 : Nat) (s1 : Int32) (h : aH) : Option (Unit × aH) :=
  ko h s0 11 <|
  bd (f_X12_qOpens s0 s1 x5 h) fun _ h6 =>
  f_X12_qPartTold_144 k2 x0 x1 h6
set_option maxRecDepth 100000 in
set_option maxHeartbeats 4000000 in
theorem t_X12_qPartTold_139 {Γ : gS} {d : Nat} (hd : 5 ≤ d) {k2 : Nat → Int32 → aH → Option (Unit × aH)} (hk2 : ∀ {x0 : Nat} {x1 : Int32} {h : aH} {r : Unit} {h' : aH}, k2 x0 x1 h = some (r, h') → Ex Γ gX12_qPartTold d 2 [(0, .ref x0), (1, .int x1)] [] h none h') {x0 : Nat} {x1 : Int32} {x5 : Int32} {s0 : Nat} {s1 : Int32} {h : aH} {r : Unit} {h' : aH} (H : f_X12_qPartTold_139 k2 x0 x1 x5 s0 s1 h = some (r, h')) : Ex Γ gX12_qPartTold d 139 [(0, .ref x0), (1, .int x1), (5, .int x5)] [.int s1, .ref s0] h none h' := by
  unfold f_X12_qPartTold_139 at H
  obtain ⟨d, rfl⟩ : ∃ e, d = e + 1 := ⟨d - 1, by omega⟩
  refine x_iload dX12_qPartTold_139 2 rfl ?_
  obtain ⟨c8, H⟩ := ko_o H
  obtain ⟨v5, h6, hc7, H⟩ := bd_o H
  refine x_callVv (As := [.int s1, .int x5]) (q := (RX12, TX12, 103)) dX12_qPartTold_141 mi_X12_qOpens lk_X12_593 im_X12_qOpens se_X12_qOpens rfl c8 rfl rfl (Nat.le_of_ble_eq_true rfl) (t_X12_qOpens (by omega) hc7) ?_
  refine Ex.sub [0, 1] rfl ?_
  exact t_X12_qPartTold_144 hd hk2 H
def f_X12_qPartTold_118 (k2 : Nat → Int32 → aH → Option (Unit × aH)) (x0 : Nat) (x1 : Int32) (x4 : Int32) (s0 : Int32) (h : aH) : Option (Unit × aH) :=
  if s0 = (-1) then
    f_X12_qPartTold_144 k2 x0 x1 h
  else
    if x4 = 0 then
      f_X12_qPartTold_139 k2 x0 x1 s0 x0 22 h
    else
      f_X12_qPartTold_139 k2 x0 x1 s0 x0 21 h
set_option maxRecDepth 100000 in
set_option maxHeartbeats 4000000 in
theorem t_X12_qPartTold_118 {Γ : gS} {d : Nat} (hd : 5 ≤ d) {k2 : Nat → Int32 → aH → Option (Unit × aH)} (hk2 : ∀ {x0 : Nat} {x1 : Int32} {h : aH} {r : Unit} {h' : aH}, k2 x0 x1 h = some (r, h') → Ex Γ gX12_qPartTold d 2 [(0, .ref x0), (1, .int x1)] [] h none h') {x0 : Nat} {x1 : Int32} {x4 : Int32} {s0 : Int32} {h : aH} {r : Unit} {h' : aH} (H : f_X12_qPartTold_118 k2 x0 x1 x4 s0 h = some (r, h')) : Ex Γ gX12_qPartTold d 118 [(0, .ref x0), (1, .int x1), (4, .int x4)] [.int s0] h none h' := by
  unfold f_X12_qPartTold_118 at H
  obtain ⟨d, rfl⟩ : ∃ e, d = e + 1 := ⟨d - 1, by omega⟩
  refine x_istore (lv' := [(5, .int s0), (0, .ref x0), (1, .int x1), (4, .int x4)]) dX12_qPartTold_118 (by decide) rfl rfl ?_
  refine x_iload dX12_qPartTold_120 0 rfl ?_
  refine x_iconst (v := (-1)) dX12_qPartTold_122 (by decide) ?_
  refine x_icmp_eq (tgt := 144) dX12_qPartTold_123 (by decide) (fun c9 => ?_) (fun c9 => ?_)
  · replace H := ite_p H c9
    refine Ex.sub [1, 2] rfl ?_
    exact t_X12_qPartTold_144 hd hk2 H
  · replace H := ite_m H c9
    refine x_aload_n dX12_qPartTold_126 rfl 1 rfl ?_
    refine x_iload dX12_qPartTold_127 3 rfl ?_
    refine x_if_eq (tgt := 137) dX12_qPartTold_129 (by decide) (fun c10 => ?_) (fun c10 => ?_)
    · replace H := ite_p H c10
      refine x_bipush (v := 22) dX12_qPartTold_137 (by decide) ?_
      refine Ex.sub [1, 2, 0] rfl ?_
      exact t_X12_qPartTold_139 hd hk2 H
    · replace H := ite_m H c10
      refine x_bipush (v := 21) dX12_qPartTold_132 (by decide) ?_
      refine x_goto (tgt := 139) dX12_qPartTold_134 (by decide) ?_
      refine Ex.sub [1, 2, 0] rfl ?_
      exact t_X12_qPartTold_139 hd hk2 H
def f_X12_qPartTold_101 (k2 : Nat → Int32 → aH → Option (Unit × aH)) (x0 : Nat) (x1 : Int32) (x4 : Int32) (h : aH) : Option (Unit × aH) :=
  ko h x0 11 <|
  bd (f_X12_look x0 h) fun v11 h12 =>
  if v11 = 40 then
    ko h12 x0 11 <|
    f_X12_qPartTold_118 k2 x0 x1 x4 (hI h12 x0 2) h12
  else
    f_X12_qPartTold_118 k2 x0 x1 x4 (-1) h12
set_option maxRecDepth 100000 in
set_option maxHeartbeats 4000000 in
theorem t_X12_qPartTold_101 {Γ : gS} {d : Nat} (hd : 5 ≤ d) {k2 : Nat → Int32 → aH → Option (Unit × aH)} (hk2 : ∀ {x0 : Nat} {x1 : Int32} {h : aH} {r : Unit} {h' : aH}, k2 x0 x1 h = some (r, h') → Ex Γ gX12_qPartTold d 2 [(0, .ref x0), (1, .int x1)] [] h none h') {x0 : Nat} {x1 : Int32} {x4 : Int32} {h : aH} {r : Unit} {h' : aH} (H : f_X12_qPartTold_101 k2 x0 x1 x4 h = some (r, h')) : Ex Γ gX12_qPartTold d 101 [(0, .ref x0), (1, .int x1), (4, .int x4)] [] h none h' := by
  unfold f_X12_qPartTold_101 at H
  obtain ⟨d, rfl⟩ : ∃ e, d = e + 1 := ⟨d - 1, by omega⟩
  refine x_aload_n dX12_qPartTold_101 rfl 0 rfl ?_
  obtain ⟨c16, H⟩ := ko_o H
  obtain ⟨v11, h12, hc13, H⟩ := bd_o H
  refine x_callVi (As := []) (q := (RX12, TX12, 103)) dX12_qPartTold_102 mi_X12_look lk_X12_237 im_X12_look se_X12_look rfl c16 rfl rfl (Nat.le_of_ble_eq_true rfl) (t_X12_look (by omega) hc13) ?_
  refine x_bipush (v := 40) dX12_qPartTold_105 (by decide) ?_
  refine x_icmp_ne (tgt := 117) dX12_qPartTold_107 (by decide) (fun c14 => ?_) (fun c14 => ?_)
  · replace H := ite_m H c14
    refine x_iconst (v := (-1)) dX12_qPartTold_117 (by decide) ?_
    exact t_X12_qPartTold_118 hd hk2 H
  · replace H := ite_p H c14
    refine x_aload_n dX12_qPartTold_110 rfl 0 rfl ?_
    obtain ⟨c15, H⟩ := ko_o H
    refine x_getI fr_X12_231 dX12_qPartTold_111 c15 rfl ?_
    refine x_goto (tgt := 118) dX12_qPartTold_114 (by decide) ?_
    exact t_X12_qPartTold_118 hd hk2 H
def f_X12_qPartTold_78 (k2 : Nat → Int32 → aH → Option (Unit × aH)) (x0 : Nat) (x1 : Int32) (h : aH) : Option (Unit × aH) :=
  ko h x0 11 <|
  kr (hR h x0 76) fun a18 =>
  bd (f_X12_takes x0 a18 h) fun v20 h21 =>
  if v20 = 0 then
    ko h21 x0 11 <|
    kr (hR h21 x0 77) fun a25 =>
    bd (f_X12_asks x0 a25 h21) fun _ h28 =>
    f_X12_qPartTold_101 k2 x0 x1 v20 h28
  else
    f_X12_qPartTold_101 k2 x0 x1 v20 h21
set_option maxRecDepth 100000 in
set_option maxHeartbeats 4000000 in
theorem t_X12_qPartTold_78 {Γ : gS} {d : Nat} (hd : 5 ≤ d) {k2 : Nat → Int32 → aH → Option (Unit × aH)} (hk2 : ∀ {x0 : Nat} {x1 : Int32} {h : aH} {r : Unit} {h' : aH}, k2 x0 x1 h = some (r, h') → Ex Γ gX12_qPartTold d 2 [(0, .ref x0), (1, .int x1)] [] h none h') {x0 : Nat} {x1 : Int32} {h : aH} {r : Unit} {h' : aH} (H : f_X12_qPartTold_78 k2 x0 x1 h = some (r, h')) : Ex Γ gX12_qPartTold d 78 [(0, .ref x0), (1, .int x1)] [] h none h' := by
  unfold f_X12_qPartTold_78 at H
  obtain ⟨d, rfl⟩ : ∃ e, d = e + 1 := ⟨d - 1, by omega⟩
  refine x_aload_n dX12_qPartTold_78 rfl 0 rfl ?_
  refine x_aload_n dX12_qPartTold_79 rfl 0 rfl ?_
  obtain ⟨c17, H⟩ := ko_o H
  obtain ⟨a18, c19, H⟩ := kr_o H
  refine x_getR fr_X12_165 dX12_qPartTold_80 c17 rfl c19 ?_
  obtain ⟨v20, h21, hc22, H⟩ := bd_o H
  refine x_callVi (As := [.ref a18]) (q := (RX12, TX12, 103)) dX12_qPartTold_83 mi_X12_takes lk_X12_252 im_X12_takes se_X12_takes rfl c17 rfl rfl (Nat.le_of_ble_eq_true rfl) (t_X12_takes (by omega) hc22) ?_
  refine x_istore (lv' := [(4, .int v20), (0, .ref x0), (1, .int x1)]) dX12_qPartTold_86 (by decide) rfl rfl ?_
  refine x_iload dX12_qPartTold_88 0 rfl ?_
  refine x_if_ne (tgt := 101) dX12_qPartTold_90 (by decide) (fun c23 => ?_) (fun c23 => ?_)
  · replace H := ite_m H c23
    refine Ex.sub [1, 2, 0] rfl ?_
    exact t_X12_qPartTold_101 hd hk2 H
  · replace H := ite_p H c23
    refine x_aload_n dX12_qPartTold_93 rfl 1 rfl ?_
    refine x_aload_n dX12_qPartTold_94 rfl 1 rfl ?_
    obtain ⟨c24, H⟩ := ko_o H
    obtain ⟨a25, c26, H⟩ := kr_o H
    refine x_getR fr_X12_168 dX12_qPartTold_95 c24 rfl c26 ?_
    obtain ⟨v27, h28, hc29, H⟩ := bd_o H
    refine x_callVv (As := [.ref a25]) (q := (RX12, TX12, 103)) dX12_qPartTold_98 mi_X12_asks lk_X12_290 im_X12_asks se_X12_asks rfl c24 rfl rfl (Nat.le_of_ble_eq_true rfl) (t_X12_asks (by omega) hc29) ?_
    refine Ex.sub [1, 2, 0] rfl ?_
    exact t_X12_qPartTold_101 hd hk2 H
def f_X12_qPartTold_237 (x0 : Nat) (s0 : Nat) (s1 : Int32) (h : aH) : Option (Unit × aH) :=
  ko h s0 11 <|
  bd (f_X12_qCode s0 s1 h) fun _ h31 =>
  ko h31 x0 11 <|
  bd (f_X12_qEndsPart x0 h31) fun _ h34 =>
  some ((), h34)
set_option maxRecDepth 100000 in
set_option maxHeartbeats 4000000 in
theorem t_X12_qPartTold_237 {Γ : gS} {d : Nat} (hd : 5 ≤ d) {x0 : Nat} {s0 : Nat} {s1 : Int32} {h : aH} {r : Unit} {h' : aH} (H : f_X12_qPartTold_237 x0 s0 s1 h = some (r, h')) : Ex Γ gX12_qPartTold d 237 [(0, .ref x0)] [.int s1, .ref s0] h none h' := by
  unfold f_X12_qPartTold_237 at H
  obtain ⟨d, rfl⟩ : ∃ e, d = e + 1 := ⟨d - 1, by omega⟩
  obtain ⟨c37, H⟩ := ko_o H
  obtain ⟨v30, h31, hc32, H⟩ := bd_o H
  refine x_callVv (As := [.int s1]) (q := (RX12, TX12, 103)) dX12_qPartTold_237 mi_X12_qCode lk_X12_575 im_X12_qCode se_X12_qCode rfl c37 rfl rfl (Nat.le_of_ble_eq_true rfl) (t_X12_qCode (by omega) hc32) ?_
  refine x_aload_n dX12_qPartTold_240 rfl 0 rfl ?_
  obtain ⟨c36, H⟩ := ko_o H
  obtain ⟨v33, h34, hc35, H⟩ := bd_o H
  refine x_callVv (As := []) (q := (RX12, TX12, 103)) dX12_qPartTold_241 mi_X12_qEndsPart lk_X12_599 im_X12_qEndsPart se_X12_qEndsPart rfl c36 rfl rfl (Nat.le_of_ble_eq_true rfl) (t_X12_qEndsPart (by omega) hc35) ?_
  obtain ⟨-, rfl⟩ := so_1 H
  exact x_vret dX12_qPartTold_244 rfl
def f_X12_qPartTold_212 (x0 : Nat) (x2 : Int32) (h : aH) : Option (Unit × aH) :=
  if x2 = (-1) then
    ko h x0 11 <|
    bd (f_X12_number x0 0 9999 h) fun v39 h40 =>
    f_X12_qPartTold_237 x0 x0 (1000 + v39) h40
  else
    f_X12_qPartTold_237 x0 x0 (40 + x2) h
set_option maxRecDepth 100000 in
set_option maxHeartbeats 4000000 in
theorem t_X12_qPartTold_212 {Γ : gS} {d : Nat} (hd : 5 ≤ d) {x0 : Nat} {x2 : Int32} {h : aH} {r : Unit} {h' : aH} (H : f_X12_qPartTold_212 x0 x2 h = some (r, h')) : Ex Γ gX12_qPartTold d 212 [(0, .ref x0), (2, .int x2)] [] h none h' := by
  unfold f_X12_qPartTold_212 at H
  obtain ⟨d, rfl⟩ : ∃ e, d = e + 1 := ⟨d - 1, by omega⟩
  refine x_aload_n dX12_qPartTold_212 rfl 0 rfl ?_
  refine x_iload_n dX12_qPartTold_213 rfl 1 rfl ?_
  refine x_iconst (v := (-1)) dX12_qPartTold_214 (by decide) ?_
  refine x_icmp_eq (tgt := 225) dX12_qPartTold_215 (by decide) (fun c38 => ?_) (fun c38 => ?_)
  · replace H := ite_p H c38
    refine x_sipush (v := 1000) dX12_qPartTold_225 (by decide) ?_
    refine x_aload_n dX12_qPartTold_228 rfl 0 rfl ?_
    refine x_iconst (v := 0) dX12_qPartTold_229 (by decide) ?_
    refine x_sipush (v := 9999) dX12_qPartTold_230 (by decide) ?_
    obtain ⟨c42, H⟩ := ko_o H
    obtain ⟨v39, h40, hc41, H⟩ := bd_o H
    refine x_callVi (As := [.int 0, .int 9999]) (q := (RX12, TX12, 103)) dX12_qPartTold_233 mi_X12_number lk_X12_294 im_X12_number se_X12_number rfl c42 rfl rfl (Nat.le_of_ble_eq_true rfl) (t_X12_number (by omega) hc41) ?_
    refine x_iadd dX12_qPartTold_236 ?_
    refine Ex.sub [0] rfl ?_
    exact t_X12_qPartTold_237 hd H
  · replace H := ite_m H c38
    refine x_bipush (v := 40) dX12_qPartTold_218 (by decide) ?_
    refine x_iload_n dX12_qPartTold_220 rfl 1 rfl ?_
    refine x_iadd dX12_qPartTold_221 ?_
    refine x_goto (tgt := 237) dX12_qPartTold_222 (by decide) ?_
    refine Ex.sub [0] rfl ?_
    exact t_X12_qPartTold_237 hd H
def f_X12_qPartTold_186 (x0 : Nat) (h : aH) : Option (Unit × aH) :=
  ko h x0 11 <|
  if (hI h x0 5) = 0 then
    bd (f_X12_qWordOf x0 0 11 h) fun v45 h46 =>
    if v45 = (-1) then
      f_X12_qPartTold_212 x0 v45 h46
    else
      ko h46 x0 11 <|
      bd (f_X12_qAsksWord x0 v45 h46) fun _ h50 =>
      f_X12_qPartTold_212 x0 v45 h50
  else
    some ((), h)
set_option maxRecDepth 100000 in
set_option maxHeartbeats 4000000 in
theorem t_X12_qPartTold_186 {Γ : gS} {d : Nat} (hd : 5 ≤ d) {x0 : Nat} {h : aH} {r : Unit} {h' : aH} (H : f_X12_qPartTold_186 x0 h = some (r, h')) : Ex Γ gX12_qPartTold d 186 [(0, .ref x0)] [] h none h' := by
  unfold f_X12_qPartTold_186 at H
  obtain ⟨d, rfl⟩ : ∃ e, d = e + 1 := ⟨d - 1, by omega⟩
  refine x_aload_n dX12_qPartTold_186 rfl 0 rfl ?_
  obtain ⟨c43, H⟩ := ko_o H
  refine x_getI fr_X12_225 dX12_qPartTold_187 c43 rfl ?_
  refine x_if_eq (tgt := 194) dX12_qPartTold_190 (by decide) (fun c44 => ?_) (fun c44 => ?_)
  · replace H := ite_p H c44
    refine x_aload_n dX12_qPartTold_194 rfl 0 rfl ?_
    refine x_iconst (v := 0) dX12_qPartTold_195 (by decide) ?_
    refine x_bipush (v := 11) dX12_qPartTold_196 (by decide) ?_
    obtain ⟨v45, h46, hc47, H⟩ := bd_o H
    refine x_callVi (As := [.int 0, .int 11]) (q := (RX12, TX12, 103)) dX12_qPartTold_198 mi_X12_qWordOf lk_X12_590 im_X12_qWordOf se_X12_qWordOf rfl c43 rfl rfl (Nat.le_of_ble_eq_true rfl) (t_X12_qWordOf (by omega) hc47) ?_
    refine x_istore_n (lv' := [(2, .int v45), (0, .ref x0)]) dX12_qPartTold_201 rfl (by decide) rfl rfl ?_
    refine x_iload_n dX12_qPartTold_202 rfl 0 rfl ?_
    refine x_iconst (v := (-1)) dX12_qPartTold_203 (by decide) ?_
    refine x_icmp_eq (tgt := 212) dX12_qPartTold_204 (by decide) (fun c48 => ?_) (fun c48 => ?_)
    · replace H := ite_p H c48
      refine Ex.sub [1, 0] rfl ?_
      exact t_X12_qPartTold_212 hd H
    · replace H := ite_m H c48
      refine x_aload_n dX12_qPartTold_207 rfl 1 rfl ?_
      refine x_iload_n dX12_qPartTold_208 rfl 0 rfl ?_
      obtain ⟨c52, H⟩ := ko_o H
      obtain ⟨v49, h50, hc51, H⟩ := bd_o H
      refine x_callVv (As := [.int v45]) (q := (RX12, TX12, 103)) dX12_qPartTold_209 mi_X12_qAsksWord lk_X12_596 im_X12_qAsksWord se_X12_qAsksWord rfl c52 rfl rfl (Nat.le_of_ble_eq_true rfl) (t_X12_qAsksWord (by omega) hc51) ?_
      refine Ex.sub [1, 0] rfl ?_
      exact t_X12_qPartTold_212 hd H
  · replace H := ite_m H c44
    obtain ⟨-, rfl⟩ := so_1 H
    exact x_vret dX12_qPartTold_193 rfl
def b_X12_qPartTold_2 (k2 : Nat → Int32 → aH → Option (Unit × aH)) (x0 : Nat) (x1 : Int32) (h : aH) : Option (Unit × aH) :=
  if x1 = 0 then
    f_X12_qPartTold_186 x0 h
  else
    ko h x0 11 <|
    if (hI h x0 5) = 0 then
      bd (f_X12_look x0 h) fun v56 h57 =>
      ko h57 x0 11 <|
      bd (f_X12_qWordOf x0 11 13 h57) fun v59 h60 =>
      if v56 = 40 then
        ko h60 x0 11 <|
        bd (f_X12_qOpens x0 20 (hI h60 x0 2) h60) fun _ h88 =>
        ko h88 x0 11 <|
        f_X12_qPartTold_183 k2 x0 x1 (sI h88 x0 2 ((hI h88 x0 2) + 1))
      else
        ko h60 x0 11 <|
        kr (hR h60 x0 76) fun a64 =>
        bd (f_X12_isHere x0 a64 h60) fun v66 h67 =>
        if v66 = 0 then
          ko h67 x0 11 <|
          kr (hR h67 x0 77) fun a71 =>
          bd (f_X12_isHere x0 a71 h67) fun v73 h74 =>
          if v73 = 0 then
            if v59 = (-1) then
              f_X12_qPartTold_183 k2 x0 0 h74
            else
              ko h74 x0 11 <|
              bd (f_X12_qOpens x0 ((60 + v59) - 11) (hI h74 x0 2) h74) fun _ h80 =>
              ko h80 x0 11 <|
              bd (f_X12_qAsksWord x0 v59 h80) fun _ h83 =>
              f_X12_qPartTold_183 k2 x0 x1 h83
          else
            f_X12_qPartTold_78 k2 x0 x1 h74
        else
          f_X12_qPartTold_78 k2 x0 x1 h67
    else
      f_X12_qPartTold_186 x0 h
set_option maxRecDepth 100000 in
set_option maxHeartbeats 4000000 in
theorem tb_X12_qPartTold_2 {Γ : gS} {d : Nat} (hd : 5 ≤ d) {k2 : Nat → Int32 → aH → Option (Unit × aH)} (hk2 : ∀ {x0 : Nat} {x1 : Int32} {h : aH} {r : Unit} {h' : aH}, k2 x0 x1 h = some (r, h') → Ex Γ gX12_qPartTold d 2 [(0, .ref x0), (1, .int x1)] [] h none h') {x0 : Nat} {x1 : Int32} {h : aH} {r : Unit} {h' : aH} (H : b_X12_qPartTold_2 k2 x0 x1 h = some (r, h')) : Ex Γ gX12_qPartTold d 2 [(0, .ref x0), (1, .int x1)] [] h none h' := by
  unfold b_X12_qPartTold_2 at H
  obtain ⟨d, rfl⟩ : ∃ e, d = e + 1 := ⟨d - 1, by omega⟩
  refine x_iload_n dX12_qPartTold_2 rfl 1 rfl ?_
  refine x_if_eq (tgt := 186) dX12_qPartTold_3 (by decide) (fun c53 => ?_) (fun c53 => ?_)
  · replace H := ite_p H c53
    refine Ex.sub [0] rfl ?_
    exact t_X12_qPartTold_186 hd H
  · replace H := ite_m H c53
    refine x_aload_n dX12_qPartTold_6 rfl 0 rfl ?_
    obtain ⟨c54, H⟩ := ko_o H
    refine x_getI fr_X12_225 dX12_qPartTold_7 c54 rfl ?_
    refine x_if_ne (tgt := 186) dX12_qPartTold_10 (by decide) (fun c55 => ?_) (fun c55 => ?_)
    · replace H := ite_m H c55
      refine Ex.sub [0] rfl ?_
      exact t_X12_qPartTold_186 hd H
    · replace H := ite_p H c55
      refine x_aload_n dX12_qPartTold_13 rfl 0 rfl ?_
      obtain ⟨v56, h57, hc58, H⟩ := bd_o H
      refine x_callVi (As := []) (q := (RX12, TX12, 103)) dX12_qPartTold_14 mi_X12_look lk_X12_237 im_X12_look se_X12_look rfl c54 rfl rfl (Nat.le_of_ble_eq_true rfl) (t_X12_look (by omega) hc58) ?_
      refine x_istore_n (lv' := [(2, .int v56), (0, .ref x0), (1, .int x1)]) dX12_qPartTold_17 rfl (by decide) rfl rfl ?_
      refine x_aload_n dX12_qPartTold_18 rfl 1 rfl ?_
      refine x_bipush (v := 11) dX12_qPartTold_19 (by decide) ?_
      refine x_bipush (v := 13) dX12_qPartTold_21 (by decide) ?_
      obtain ⟨c91, H⟩ := ko_o H
      obtain ⟨v59, h60, hc61, H⟩ := bd_o H
      refine x_callVi (As := [.int 11, .int 13]) (q := (RX12, TX12, 103)) dX12_qPartTold_23 mi_X12_qWordOf lk_X12_590 im_X12_qWordOf se_X12_qWordOf rfl c91 rfl rfl (Nat.le_of_ble_eq_true rfl) (t_X12_qWordOf (by omega) hc61) ?_
      refine x_istore_n (lv' := [(3, .int v59), (2, .int v56), (0, .ref x0), (1, .int x1)]) dX12_qPartTold_26 rfl (by decide) rfl rfl ?_
      refine x_iload_n dX12_qPartTold_27 rfl 1 rfl ?_
      refine x_bipush (v := 40) dX12_qPartTold_28 (by decide) ?_
      refine x_icmp_ne (tgt := 56) dX12_qPartTold_30 (by decide) (fun c62 => ?_) (fun c62 => ?_)
      · replace H := ite_m H c62
        refine x_aload_n dX12_qPartTold_56 rfl 2 rfl ?_
        refine x_aload_n dX12_qPartTold_57 rfl 2 rfl ?_
        obtain ⟨c63, H⟩ := ko_o H
        obtain ⟨a64, c65, H⟩ := kr_o H
        refine x_getR fr_X12_165 dX12_qPartTold_58 c63 rfl c65 ?_
        obtain ⟨v66, h67, hc68, H⟩ := bd_o H
        refine x_callVi (As := [.ref a64]) (q := (RX12, TX12, 103)) dX12_qPartTold_61 mi_X12_isHere lk_X12_248 im_X12_isHere se_X12_isHere rfl c63 rfl rfl (Nat.le_of_ble_eq_true rfl) (t_X12_isHere (by omega) hc68) ?_
        refine x_if_ne (tgt := 78) dX12_qPartTold_64 (by decide) (fun c69 => ?_) (fun c69 => ?_)
        · replace H := ite_m H c69
          refine Ex.sub [2, 3] rfl ?_
          exact t_X12_qPartTold_78 hd hk2 H
        · replace H := ite_p H c69
          refine x_aload_n dX12_qPartTold_67 rfl 2 rfl ?_
          refine x_aload_n dX12_qPartTold_68 rfl 2 rfl ?_
          obtain ⟨c70, H⟩ := ko_o H
          obtain ⟨a71, c72, H⟩ := kr_o H
          refine x_getR fr_X12_168 dX12_qPartTold_69 c70 rfl c72 ?_
          obtain ⟨v73, h74, hc75, H⟩ := bd_o H
          refine x_callVi (As := [.ref a71]) (q := (RX12, TX12, 103)) dX12_qPartTold_72 mi_X12_isHere lk_X12_248 im_X12_isHere se_X12_isHere rfl c70 rfl rfl (Nat.le_of_ble_eq_true rfl) (t_X12_isHere (by omega) hc75) ?_
          refine x_if_eq (tgt := 153) dX12_qPartTold_75 (by decide) (fun c76 => ?_) (fun c76 => ?_)
          · replace H := ite_p H c76
            refine x_iload_n dX12_qPartTold_153 rfl 0 rfl ?_
            refine x_iconst (v := (-1)) dX12_qPartTold_154 (by decide) ?_
            refine x_icmp_eq (tgt := 181) dX12_qPartTold_155 (by decide) (fun c77 => ?_) (fun c77 => ?_)
            · replace H := ite_p H c77
              refine x_iconst (v := 0) dX12_qPartTold_181 (by decide) ?_
              refine x_istore_n (lv' := [(1, .int 0), (3, .int v59), (2, .int v56), (0, .ref x0)]) dX12_qPartTold_182 rfl (by decide) rfl rfl ?_
              refine Ex.sub [3, 0] rfl ?_
              exact t_X12_qPartTold_183 hd hk2 H
            · replace H := ite_m H c77
              refine x_aload_n dX12_qPartTold_158 rfl 2 rfl ?_
              refine x_bipush (v := 60) dX12_qPartTold_159 (by decide) ?_
              refine x_iload_n dX12_qPartTold_161 rfl 0 rfl ?_
              refine x_iadd dX12_qPartTold_162 ?_
              refine x_bipush (v := 11) dX12_qPartTold_163 (by decide) ?_
              refine x_isub dX12_qPartTold_165 ?_
              refine x_aload_n dX12_qPartTold_166 rfl 2 rfl ?_
              obtain ⟨c78, H⟩ := ko_o H
              refine x_getI fr_X12_231 dX12_qPartTold_167 c78 rfl ?_
              obtain ⟨v79, h80, hc81, H⟩ := bd_o H
              refine x_callVv (As := [.int ((60 + v59) - 11), .int (hI h74 x0 2)]) (q := (RX12, TX12, 103)) dX12_qPartTold_170 mi_X12_qOpens lk_X12_593 im_X12_qOpens se_X12_qOpens rfl c78 rfl rfl (Nat.le_of_ble_eq_true rfl) (t_X12_qOpens (by omega) hc81) ?_
              refine x_aload_n dX12_qPartTold_173 rfl 2 rfl ?_
              refine x_iload_n dX12_qPartTold_174 rfl 0 rfl ?_
              obtain ⟨c85, H⟩ := ko_o H
              obtain ⟨v82, h83, hc84, H⟩ := bd_o H
              refine x_callVv (As := [.int v59]) (q := (RX12, TX12, 103)) dX12_qPartTold_175 mi_X12_qAsksWord lk_X12_596 im_X12_qAsksWord se_X12_qAsksWord rfl c85 rfl rfl (Nat.le_of_ble_eq_true rfl) (t_X12_qAsksWord (by omega) hc84) ?_
              refine x_goto (tgt := 183) dX12_qPartTold_178 (by decide) ?_
              refine Ex.sub [2, 3] rfl ?_
              exact t_X12_qPartTold_183 hd hk2 H
          · replace H := ite_m H c76
            refine Ex.sub [2, 3] rfl ?_
            exact t_X12_qPartTold_78 hd hk2 H
      · replace H := ite_p H c62
        refine x_aload_n dX12_qPartTold_33 rfl 2 rfl ?_
        refine x_bipush (v := 20) dX12_qPartTold_34 (by decide) ?_
        refine x_aload_n dX12_qPartTold_36 rfl 2 rfl ?_
        obtain ⟨c86, H⟩ := ko_o H
        refine x_getI fr_X12_231 dX12_qPartTold_37 c86 rfl ?_
        obtain ⟨v87, h88, hc89, H⟩ := bd_o H
        refine x_callVv (As := [.int 20, .int (hI h60 x0 2)]) (q := (RX12, TX12, 103)) dX12_qPartTold_40 mi_X12_qOpens lk_X12_593 im_X12_qOpens se_X12_qOpens rfl c86 rfl rfl (Nat.le_of_ble_eq_true rfl) (t_X12_qOpens (by omega) hc89) ?_
        refine x_aload_n dX12_qPartTold_43 rfl 2 rfl ?_
        refine x_dup dX12_qPartTold_44 rfl ?_
        obtain ⟨c90, H⟩ := ko_o H
        refine x_getI fr_X12_231 dX12_qPartTold_45 c90 rfl ?_
        refine x_iconst (v := 1) dX12_qPartTold_48 (by decide) ?_
        refine x_iadd dX12_qPartTold_49 ?_
        refine x_putI fl_X12_231 dX12_qPartTold_50 c90 (fun e => by cases e) rfl ?_
        refine x_goto (tgt := 183) dX12_qPartTold_53 (by decide) ?_
        refine Ex.sub [2, 3] rfl ?_
        exact t_X12_qPartTold_183 hd hk2 H
def f_X12_qPartTold_2 : Nat → Nat → Int32 → aH → Option (Unit × aH)
  | 0 => fun _ _ _ => none
  | n + 1 => b_X12_qPartTold_2 (f_X12_qPartTold_2 n)
set_option maxRecDepth 100000 in
set_option maxHeartbeats 4000000 in
theorem t_X12_qPartTold_2 {Γ : gS} {d : Nat} (hd : 5 ≤ d) (n : Nat) : ∀ {x0 : Nat} {x1 : Int32} {h : aH} {r : Unit} {h' : aH}, f_X12_qPartTold_2 n x0 x1 h = some (r, h') → Ex Γ gX12_qPartTold d 2 [(0, .ref x0), (1, .int x1)] [] h none h' := by
  induction n with
  | zero => intro x0 x1 h r h' H; cases H
  | succ n ih => intro x0 x1 h r h' H; exact tb_X12_qPartTold_2 hd ih H
def f_X12_qPartTold (x0 : Nat) (h : aH) : Option (Unit × aH) :=
  f_X12_qPartTold_2 FU x0 1 h
set_option maxRecDepth 100000 in
set_option maxHeartbeats 4000000 in
theorem t_X12_qPartTold {Γ : gS} {d : Nat} (hd : 5 ≤ d) {x0 : Nat} {h : aH} {r : Unit} {h' : aH} (H : f_X12_qPartTold x0 h = some (r, h')) : Mx Γ gX12_qPartTold d [.ref x0] h none h' := by
  refine Mx.of (by decide +kernel) (Nat.le_of_ble_eq_true rfl) ?_
  unfold f_X12_qPartTold at H
  show Ex Γ gX12_qPartTold d 0 [(0, .ref x0)] [] h none h'
  obtain ⟨d, rfl⟩ : ∃ e, d = e + 1 := ⟨d - 1, by omega⟩
  refine x_iconst (v := 1) dX12_qPartTold_0 (by decide) ?_
  refine x_istore_n (lv' := [(1, .int 1), (0, .ref x0)]) dX12_qPartTold_1 rfl (by decide) rfl rfl ?_
  refine Ex.sub [1, 0] rfl ?_
  exact t_X12_qPartTold_2 hd FU H
def f_X12_qSums_49 (k15 : Nat → Int32 → Int32 → aH → Option (Unit × aH)) (x0 : Nat) (x1 : Int32) (s0 : Int32) (h : aH) : Option (Unit × aH) :=
  k15 x0 x1 s0 h
set_option maxRecDepth 100000 in
set_option maxHeartbeats 4000000 in
theorem t_X12_qSums_49 {Γ : gS} {d : Nat} (hd : 6 ≤ d) {k15 : Nat → Int32 → Int32 → aH → Option (Unit × aH)} (hk15 : ∀ {x0 : Nat} {x1 : Int32} {x2 : Int32} {h : aH} {r : Unit} {h' : aH}, k15 x0 x1 x2 h = some (r, h') → Ex Γ gX12_qSums d 15 [(0, .ref x0), (1, .int x1), (2, .int x2)] [] h none h') {x0 : Nat} {x1 : Int32} {s0 : Int32} {h : aH} {r : Unit} {h' : aH} (H : f_X12_qSums_49 k15 x0 x1 s0 h = some (r, h')) : Ex Γ gX12_qSums d 49 [(0, .ref x0), (1, .int x1)] [.int s0] h none h' := by
  unfold f_X12_qSums_49 at H
  obtain ⟨d, rfl⟩ : ∃ e, d = e + 1 := ⟨d - 1, by omega⟩
  refine x_istore_n (lv' := [(2, .int s0), (0, .ref x0), (1, .int x1)]) dX12_qSums_49 rfl (by decide) rfl rfl ?_
  refine x_goto (tgt := 15) dX12_qSums_50 (by decide) ?_
  refine Ex.sub [1, 2, 0] rfl ?_
  exact hk15 H
def f_X12_qSums_48 (k15 : Nat → Int32 → Int32 → aH → Option (Unit × aH)) (x0 : Nat) (x1 : Int32) (h : aH) : Option (Unit × aH) :=
  f_X12_qSums_49 k15 x0 x1 0 h
set_option maxRecDepth 100000 in
set_option maxHeartbeats 4000000 in
theorem t_X12_qSums_48 {Γ : gS} {d : Nat} (hd : 6 ≤ d) {k15 : Nat → Int32 → Int32 → aH → Option (Unit × aH)} (hk15 : ∀ {x0 : Nat} {x1 : Int32} {x2 : Int32} {h : aH} {r : Unit} {h' : aH}, k15 x0 x1 x2 h = some (r, h') → Ex Γ gX12_qSums d 15 [(0, .ref x0), (1, .int x1), (2, .int x2)] [] h none h') {x0 : Nat} {x1 : Int32} {h : aH} {r : Unit} {h' : aH} (H : f_X12_qSums_48 k15 x0 x1 h = some (r, h')) : Ex Γ gX12_qSums d 48 [(0, .ref x0), (1, .int x1)] [] h none h' := by
  unfold f_X12_qSums_48 at H
  obtain ⟨d, rfl⟩ : ∃ e, d = e + 1 := ⟨d - 1, by omega⟩
  refine x_iconst (v := 0) dX12_qSums_48 (by decide) ?_
  exact t_X12_qSums_49 hd hk15 H
def f_X12_qSums_78 (x0 : Nat) (x1 : Int32) (h : aH) : Option (Unit × aH) :=
  ko h x0 11 <|
  some ((), sI h x0 96 x1)
set_option maxRecDepth 100000 in
set_option maxHeartbeats 4000000 in
theorem t_X12_qSums_78 {Γ : gS} {d : Nat} (hd : 6 ≤ d) {x0 : Nat} {x1 : Int32} {h : aH} {r : Unit} {h' : aH} (H : f_X12_qSums_78 x0 x1 h = some (r, h')) : Ex Γ gX12_qSums d 78 [(0, .ref x0), (1, .int x1)] [] h none h' := by
  unfold f_X12_qSums_78 at H
  obtain ⟨d, rfl⟩ : ∃ e, d = e + 1 := ⟨d - 1, by omega⟩
  refine x_aload_n dX12_qSums_78 rfl 0 rfl ?_
  refine x_iload_n dX12_qSums_79 rfl 1 rfl ?_
  obtain ⟨c1, H⟩ := ko_o H
  refine x_putI fl_X12_315 dX12_qSums_80 c1 (fun e => by cases e) rfl ?_
  obtain ⟨-, rfl⟩ := so_1 H
  exact x_vret dX12_qSums_83 rfl
def b_X12_qSums_53 (k53 : Nat → Int32 → aH → Option (Unit × aH)) (x0 : Nat) (x1 : Int32) (h : aH) : Option (Unit × aH) :=
  ko h x0 11 <|
  if (hI h x0 5) = 0 then
    if (hI h x0 94) ≤ (hI h x0 96) then
      f_X12_qSums_78 x0 x1 h
    else
      bd (f_X12_qDrops x0 h) fun _ h6 =>
      k53 x0 x1 h6
  else
    f_X12_qSums_78 x0 x1 h
set_option maxRecDepth 100000 in
set_option maxHeartbeats 4000000 in
theorem tb_X12_qSums_53 {Γ : gS} {d : Nat} (hd : 6 ≤ d) {k53 : Nat → Int32 → aH → Option (Unit × aH)} (hk53 : ∀ {x0 : Nat} {x1 : Int32} {h : aH} {r : Unit} {h' : aH}, k53 x0 x1 h = some (r, h') → Ex Γ gX12_qSums d 53 [(0, .ref x0), (1, .int x1)] [] h none h') {x0 : Nat} {x1 : Int32} {h : aH} {r : Unit} {h' : aH} (H : b_X12_qSums_53 k53 x0 x1 h = some (r, h')) : Ex Γ gX12_qSums d 53 [(0, .ref x0), (1, .int x1)] [] h none h' := by
  unfold b_X12_qSums_53 at H
  obtain ⟨d, rfl⟩ : ∃ e, d = e + 1 := ⟨d - 1, by omega⟩
  refine x_aload_n dX12_qSums_53 rfl 0 rfl ?_
  obtain ⟨c2, H⟩ := ko_o H
  refine x_getI fr_X12_225 dX12_qSums_54 c2 rfl ?_
  refine x_if_ne (tgt := 78) dX12_qSums_57 (by decide) (fun c3 => ?_) (fun c3 => ?_)
  · replace H := ite_m H c3
    exact t_X12_qSums_78 hd H
  · replace H := ite_p H c3
    refine x_aload_n dX12_qSums_60 rfl 0 rfl ?_
    refine x_getI fr_X12_309 dX12_qSums_61 c2 rfl ?_
    refine x_aload_n dX12_qSums_64 rfl 0 rfl ?_
    refine x_getI fr_X12_315 dX12_qSums_65 c2 rfl ?_
    refine x_icmp_le (tgt := 78) dX12_qSums_68 (by decide) (fun c4 => ?_) (fun c4 => ?_)
    · replace H := ite_p H c4
      exact t_X12_qSums_78 hd H
    · replace H := ite_m H c4
      refine x_aload_n dX12_qSums_71 rfl 0 rfl ?_
      obtain ⟨v5, h6, hc7, H⟩ := bd_o H
      refine x_callVv (As := []) (q := (RX12, TX12, 103)) dX12_qSums_72 mi_X12_qDrops lk_X12_581 im_X12_qDrops se_X12_qDrops rfl c2 rfl rfl (Nat.le_of_ble_eq_true rfl) (t_X12_qDrops (by omega) hc7) ?_
      refine x_goto (tgt := 53) dX12_qSums_75 (by decide) ?_
      exact hk53 H
def f_X12_qSums_53 : Nat → Nat → Int32 → aH → Option (Unit × aH)
  | 0 => fun _ _ _ => none
  | n + 1 => b_X12_qSums_53 (f_X12_qSums_53 n)
set_option maxRecDepth 100000 in
set_option maxHeartbeats 4000000 in
theorem t_X12_qSums_53 {Γ : gS} {d : Nat} (hd : 6 ≤ d) (n : Nat) : ∀ {x0 : Nat} {x1 : Int32} {h : aH} {r : Unit} {h' : aH}, f_X12_qSums_53 n x0 x1 h = some (r, h') → Ex Γ gX12_qSums d 53 [(0, .ref x0), (1, .int x1)] [] h none h' := by
  induction n with
  | zero => intro x0 x1 h r h' H; cases H
  | succ n ih => intro x0 x1 h r h' H; exact tb_X12_qSums_53 hd ih H
def b_X12_qSums_15 (k15 : Nat → Int32 → Int32 → aH → Option (Unit × aH)) (x0 : Nat) (x1 : Int32) (x2 : Int32) (h : aH) : Option (Unit × aH) :=
  if x2 = 0 then
    f_X12_qSums_53 FU x0 x1 h
  else
    ko h x0 11 <|
    if (hI h x0 5) = 0 then
      bd (f_X12_qPartTold x0 h) fun _ h12 =>
      ko h12 x0 11 <|
      if (hI h12 x0 5) = 0 then
        bd (f_X12_qGoesOn x0 h12) fun v16 h17 =>
        if v16 = 0 then
          f_X12_qSums_48 k15 x0 x1 h17
        else
          f_X12_qSums_49 k15 x0 x1 1 h17
      else
        f_X12_qSums_48 k15 x0 x1 h12
    else
      f_X12_qSums_53 FU x0 x1 h
set_option maxRecDepth 100000 in
set_option maxHeartbeats 4000000 in
theorem tb_X12_qSums_15 {Γ : gS} {d : Nat} (hd : 6 ≤ d) {k15 : Nat → Int32 → Int32 → aH → Option (Unit × aH)} (hk15 : ∀ {x0 : Nat} {x1 : Int32} {x2 : Int32} {h : aH} {r : Unit} {h' : aH}, k15 x0 x1 x2 h = some (r, h') → Ex Γ gX12_qSums d 15 [(0, .ref x0), (1, .int x1), (2, .int x2)] [] h none h') {x0 : Nat} {x1 : Int32} {x2 : Int32} {h : aH} {r : Unit} {h' : aH} (H : b_X12_qSums_15 k15 x0 x1 x2 h = some (r, h')) : Ex Γ gX12_qSums d 15 [(0, .ref x0), (1, .int x1), (2, .int x2)] [] h none h' := by
  unfold b_X12_qSums_15 at H
  obtain ⟨d, rfl⟩ : ∃ e, d = e + 1 := ⟨d - 1, by omega⟩
  refine x_iload_n dX12_qSums_15 rfl 2 rfl ?_
  refine x_if_eq (tgt := 53) dX12_qSums_16 (by decide) (fun c8 => ?_) (fun c8 => ?_)
  · replace H := ite_p H c8
    refine Ex.sub [0, 1] rfl ?_
    exact t_X12_qSums_53 hd FU H
  · replace H := ite_m H c8
    refine x_aload_n dX12_qSums_19 rfl 0 rfl ?_
    obtain ⟨c9, H⟩ := ko_o H
    refine x_getI fr_X12_225 dX12_qSums_20 c9 rfl ?_
    refine x_if_ne (tgt := 53) dX12_qSums_23 (by decide) (fun c10 => ?_) (fun c10 => ?_)
    · replace H := ite_m H c10
      refine Ex.sub [0, 1] rfl ?_
      exact t_X12_qSums_53 hd FU H
    · replace H := ite_p H c10
      refine x_aload_n dX12_qSums_26 rfl 0 rfl ?_
      obtain ⟨v11, h12, hc13, H⟩ := bd_o H
      refine x_callVv (As := []) (q := (RX12, TX12, 103)) dX12_qSums_27 mi_X12_qPartTold lk_X12_611 im_X12_qPartTold se_X12_qPartTold rfl c9 rfl rfl (Nat.le_of_ble_eq_true rfl) (t_X12_qPartTold (by omega) hc13) ?_
      refine x_aload_n dX12_qSums_30 rfl 0 rfl ?_
      obtain ⟨c14, H⟩ := ko_o H
      refine x_getI fr_X12_225 dX12_qSums_31 c14 rfl ?_
      refine x_if_ne (tgt := 48) dX12_qSums_34 (by decide) (fun c15 => ?_) (fun c15 => ?_)
      · replace H := ite_m H c15
        refine Ex.sub [0, 1] rfl ?_
        exact t_X12_qSums_48 hd hk15 H
      · replace H := ite_p H c15
        refine x_aload_n dX12_qSums_37 rfl 0 rfl ?_
        obtain ⟨v16, h17, hc18, H⟩ := bd_o H
        refine x_callVi (As := []) (q := (RX12, TX12, 103)) dX12_qSums_38 mi_X12_qGoesOn lk_X12_614 im_X12_qGoesOn se_X12_qGoesOn rfl c14 rfl rfl (Nat.le_of_ble_eq_true rfl) (t_X12_qGoesOn (by omega) hc18) ?_
        refine x_if_eq (tgt := 48) dX12_qSums_41 (by decide) (fun c19 => ?_) (fun c19 => ?_)
        · replace H := ite_p H c19
          refine Ex.sub [0, 1] rfl ?_
          exact t_X12_qSums_48 hd hk15 H
        · replace H := ite_m H c19
          refine x_iconst (v := 1) dX12_qSums_44 (by decide) ?_
          refine x_goto (tgt := 49) dX12_qSums_45 (by decide) ?_
          refine Ex.sub [0, 1] rfl ?_
          exact t_X12_qSums_49 hd hk15 H
def f_X12_qSums_15 : Nat → Nat → Int32 → Int32 → aH → Option (Unit × aH)
  | 0 => fun _ _ _ _ => none
  | n + 1 => b_X12_qSums_15 (f_X12_qSums_15 n)
set_option maxRecDepth 100000 in
set_option maxHeartbeats 4000000 in
theorem t_X12_qSums_15 {Γ : gS} {d : Nat} (hd : 6 ≤ d) (n : Nat) : ∀ {x0 : Nat} {x1 : Int32} {x2 : Int32} {h : aH} {r : Unit} {h' : aH}, f_X12_qSums_15 n x0 x1 x2 h = some (r, h') → Ex Γ gX12_qSums d 15 [(0, .ref x0), (1, .int x1), (2, .int x2)] [] h none h' := by
  induction n with
  | zero => intro x0 x1 x2 h r h' H; cases H
  | succ n ih => intro x0 x1 x2 h r h' H; exact tb_X12_qSums_15 hd ih H
def f_X12_qSums (x0 : Nat) (h : aH) : Option (Unit × aH) :=
  ko h x0 11 <|
  nm (hI h x0 96) fun (v21 : Int32) =>
  f_X12_qSums_15 FU x0 v21 1 (sI h x0 96 (hI h x0 94))
set_option maxRecDepth 100000 in
set_option maxHeartbeats 4000000 in
theorem t_X12_qSums {Γ : gS} {d : Nat} (hd : 6 ≤ d) {x0 : Nat} {h : aH} {r : Unit} {h' : aH} (H : f_X12_qSums x0 h = some (r, h')) : Mx Γ gX12_qSums d [.ref x0] h none h' := by
  refine Mx.of (by decide +kernel) (Nat.le_of_ble_eq_true rfl) ?_
  unfold f_X12_qSums at H
  show Ex Γ gX12_qSums d 0 [(0, .ref x0)] [] h none h'
  obtain ⟨d, rfl⟩ : ∃ e, d = e + 1 := ⟨d - 1, by omega⟩
  refine x_aload_n dX12_qSums_0 rfl 0 rfl ?_
  obtain ⟨c20, H⟩ := ko_o H
  refine x_getI fr_X12_315 dX12_qSums_1 c20 rfl ?_
  obtain ⟨v21, ev21, H⟩ := nm_o H
  refine x_istore_n (lv' := [(1, .int v21), (0, .ref x0)]) dX12_qSums_4 rfl (by decide) ev21 rfl ?_
  refine x_aload_n dX12_qSums_5 rfl 1 rfl ?_
  refine x_aload_n dX12_qSums_6 rfl 1 rfl ?_
  refine x_getI fr_X12_309 dX12_qSums_7 c20 rfl ?_
  refine x_putI fl_X12_315 dX12_qSums_10 c20 (fun e => by cases e) rfl ?_
  refine x_iconst (v := 1) dX12_qSums_13 (by decide) ?_
  refine x_istore_n (lv' := [(2, .int 1), (1, .int v21), (0, .ref x0)]) dX12_qSums_14 rfl (by decide) rfl rfl ?_
  refine Ex.sub [2, 1, 0] rfl ?_
  exact t_X12_qSums_15 hd FU H
def f_X12_qDropsNots_33 (h : aH) : Option (Unit × aH) :=
  some ((), h)
set_option maxRecDepth 100000 in
set_option maxHeartbeats 4000000 in
theorem t_X12_qDropsNots_33 {Γ : gS} {d : Nat} (hd : 2 ≤ d) {h : aH} {r : Unit} {h' : aH} (H : f_X12_qDropsNots_33 h = some (r, h')) : Ex Γ gX12_qDropsNots d 33 [] [] h none h' := by
  unfold f_X12_qDropsNots_33 at H
  obtain ⟨d, rfl⟩ : ∃ e, d = e + 1 := ⟨d - 1, by omega⟩
  obtain ⟨-, rfl⟩ := so_1 H
  exact x_vret dX12_qDropsNots_33 rfl
def b_X12_qDropsNots_0 (k0 : Nat → aH → Option (Unit × aH)) (x0 : Nat) (h : aH) : Option (Unit × aH) :=
  ko h x0 11 <|
  if (hI h x0 5) = 0 then
    bd (f_X12_qIsOn x0 12 h) fun v3 h4 =>
    if v3 = 0 then
      f_X12_qDropsNots_33 h4
    else
      ko h4 x0 11 <|
      bd (f_X12_qDrops x0 (sI h4 x0 95 ((hI h4 x0 95) - 1))) fun _ h9 =>
      k0 x0 h9
  else
    f_X12_qDropsNots_33 h
set_option maxRecDepth 100000 in
set_option maxHeartbeats 4000000 in
theorem tb_X12_qDropsNots_0 {Γ : gS} {d : Nat} (hd : 2 ≤ d) {k0 : Nat → aH → Option (Unit × aH)} (hk0 : ∀ {x0 : Nat} {h : aH} {r : Unit} {h' : aH}, k0 x0 h = some (r, h') → Ex Γ gX12_qDropsNots d 0 [(0, .ref x0)] [] h none h') {x0 : Nat} {h : aH} {r : Unit} {h' : aH} (H : b_X12_qDropsNots_0 k0 x0 h = some (r, h')) : Ex Γ gX12_qDropsNots d 0 [(0, .ref x0)] [] h none h' := by
  unfold b_X12_qDropsNots_0 at H
  obtain ⟨d, rfl⟩ : ∃ e, d = e + 1 := ⟨d - 1, by omega⟩
  refine x_aload_n dX12_qDropsNots_0 rfl 0 rfl ?_
  obtain ⟨c1, H⟩ := ko_o H
  refine x_getI fr_X12_225 dX12_qDropsNots_1 c1 rfl ?_
  refine x_if_ne (tgt := 33) dX12_qDropsNots_4 (by decide) (fun c2 => ?_) (fun c2 => ?_)
  · replace H := ite_m H c2
    refine Ex.sub [] rfl ?_
    exact t_X12_qDropsNots_33 hd H
  · replace H := ite_p H c2
    refine x_aload_n dX12_qDropsNots_7 rfl 0 rfl ?_
    refine x_bipush (v := 12) dX12_qDropsNots_8 (by decide) ?_
    obtain ⟨v3, h4, hc5, H⟩ := bd_o H
    refine x_callVi (As := [.int 12]) (q := (RX12, TX12, 103)) dX12_qDropsNots_10 mi_X12_qIsOn lk_X12_608 im_X12_qIsOn se_X12_qIsOn rfl c1 rfl rfl (Nat.le_of_ble_eq_true rfl) (t_X12_qIsOn (by omega) hc5) ?_
    refine x_if_eq (tgt := 33) dX12_qDropsNots_13 (by decide) (fun c6 => ?_) (fun c6 => ?_)
    · replace H := ite_p H c6
      refine Ex.sub [] rfl ?_
      exact t_X12_qDropsNots_33 hd H
    · replace H := ite_m H c6
      refine x_aload_n dX12_qDropsNots_16 rfl 0 rfl ?_
      refine x_dup dX12_qDropsNots_17 rfl ?_
      obtain ⟨c7, H⟩ := ko_o H
      refine x_getI fr_X12_312 dX12_qDropsNots_18 c7 rfl ?_
      refine x_iconst (v := 1) dX12_qDropsNots_21 (by decide) ?_
      refine x_isub dX12_qDropsNots_22 ?_
      refine x_putI fl_X12_312 dX12_qDropsNots_23 c7 (fun e => by cases e) rfl ?_
      refine x_aload_n dX12_qDropsNots_26 rfl 0 rfl ?_
      obtain ⟨v8, h9, hc10, H⟩ := bd_o H
      refine x_callVv (As := []) (q := (RX12, TX12, 103)) dX12_qDropsNots_27 mi_X12_qDrops lk_X12_581 im_X12_qDrops se_X12_qDrops rfl c7 rfl rfl (Nat.le_of_ble_eq_true rfl) (t_X12_qDrops (by omega) hc10) ?_
      refine x_goto (tgt := 0) dX12_qDropsNots_30 (by decide) ?_
      exact hk0 H
def f_X12_qDropsNots_0 : Nat → Nat → aH → Option (Unit × aH)
  | 0 => fun _ _ => none
  | n + 1 => b_X12_qDropsNots_0 (f_X12_qDropsNots_0 n)
set_option maxRecDepth 100000 in
set_option maxHeartbeats 4000000 in
theorem t_X12_qDropsNots_0 {Γ : gS} {d : Nat} (hd : 2 ≤ d) (n : Nat) : ∀ {x0 : Nat} {h : aH} {r : Unit} {h' : aH}, f_X12_qDropsNots_0 n x0 h = some (r, h') → Ex Γ gX12_qDropsNots d 0 [(0, .ref x0)] [] h none h' := by
  induction n with
  | zero => intro x0 h r h' H; cases H
  | succ n ih => intro x0 h r h' H; exact tb_X12_qDropsNots_0 hd ih H
def f_X12_qDropsNots (x0 : Nat) (h : aH) : Option (Unit × aH) :=
  f_X12_qDropsNots_0 FU x0 h
set_option maxRecDepth 100000 in
set_option maxHeartbeats 4000000 in
theorem t_X12_qDropsNots {Γ : gS} {d : Nat} (hd : 2 ≤ d) {x0 : Nat} {h : aH} {r : Unit} {h' : aH} (H : f_X12_qDropsNots x0 h = some (r, h')) : Mx Γ gX12_qDropsNots d [.ref x0] h none h' := by
  refine Mx.of (by decide +kernel) (Nat.le_of_ble_eq_true rfl) ?_
  unfold f_X12_qDropsNots at H
  show Ex Γ gX12_qDropsNots d 0 [(0, .ref x0)] [] h none h'
  obtain ⟨d, rfl⟩ : ∃ e, d = e + 1 := ⟨d - 1, by omega⟩
  exact t_X12_qDropsNots_0 hd FU H
def f_X12_qFact_102 (s0 : Nat) (s1 : Int32) (h : aH) : Option (Unit × aH) :=
  ko h s0 11 <|
  bd (f_X12_qCode s0 s1 h) fun _ h2 =>
  some ((), h2)
set_option maxRecDepth 100000 in
set_option maxHeartbeats 4000000 in
theorem t_X12_qFact_102 {Γ : gS} {d : Nat} (hd : 7 ≤ d) {s0 : Nat} {s1 : Int32} {h : aH} {r : Unit} {h' : aH} (H : f_X12_qFact_102 s0 s1 h = some (r, h')) : Ex Γ gX12_qFact d 102 [] [.int s1, .ref s0] h none h' := by
  unfold f_X12_qFact_102 at H
  obtain ⟨d, rfl⟩ : ∃ e, d = e + 1 := ⟨d - 1, by omega⟩
  obtain ⟨c4, H⟩ := ko_o H
  obtain ⟨v1, h2, hc3, H⟩ := bd_o H
  refine x_callVv (As := [.int s1]) (q := (RX12, TX12, 103)) dX12_qFact_102 mi_X12_qCode lk_X12_575 im_X12_qCode se_X12_qCode rfl c4 rfl rfl (Nat.le_of_ble_eq_true rfl) (t_X12_qCode (by omega) hc3) ?_
  obtain ⟨-, rfl⟩ := so_1 H
  exact x_vret dX12_qFact_105 rfl
def f_X12_qFact_63 (x0 : Nat) (x1 : Int32) (h : aH) : Option (Unit × aH) :=
  ko h x0 11 <|
  bd (f_X12_qSums x0 (sI h x0 2 ((hI h x0 2) + 1))) fun _ h7 =>
  if x1 = 60 then
    f_X12_qFact_102 x0 7 h7
  else
    if x1 = 62 then
      f_X12_qFact_102 x0 8 h7
    else
      f_X12_qFact_102 x0 9 h7
set_option maxRecDepth 100000 in
set_option maxHeartbeats 4000000 in
theorem t_X12_qFact_63 {Γ : gS} {d : Nat} (hd : 7 ≤ d) {x0 : Nat} {x1 : Int32} {h : aH} {r : Unit} {h' : aH} (H : f_X12_qFact_63 x0 x1 h = some (r, h')) : Ex Γ gX12_qFact d 63 [(0, .ref x0), (1, .int x1)] [] h none h' := by
  unfold f_X12_qFact_63 at H
  obtain ⟨d, rfl⟩ : ∃ e, d = e + 1 := ⟨d - 1, by omega⟩
  refine x_aload_n dX12_qFact_63 rfl 0 rfl ?_
  refine x_dup dX12_qFact_64 rfl ?_
  obtain ⟨c5, H⟩ := ko_o H
  refine x_getI fr_X12_231 dX12_qFact_65 c5 rfl ?_
  refine x_iconst (v := 1) dX12_qFact_68 (by decide) ?_
  refine x_iadd dX12_qFact_69 ?_
  refine x_putI fl_X12_231 dX12_qFact_70 c5 (fun e => by cases e) rfl ?_
  refine x_aload_n dX12_qFact_73 rfl 0 rfl ?_
  obtain ⟨v6, h7, hc8, H⟩ := bd_o H
  refine x_callVv (As := []) (q := (RX12, TX12, 103)) dX12_qFact_74 mi_X12_qSums lk_X12_321 im_X12_qSums se_X12_qSums rfl c5 rfl rfl (Nat.le_of_ble_eq_true rfl) (t_X12_qSums (by omega) hc8) ?_
  refine x_aload_n dX12_qFact_77 rfl 0 rfl ?_
  refine x_iload_n dX12_qFact_78 rfl 1 rfl ?_
  refine x_bipush (v := 60) dX12_qFact_79 (by decide) ?_
  refine x_icmp_ne (tgt := 89) dX12_qFact_81 (by decide) (fun c9 => ?_) (fun c9 => ?_)
  · replace H := ite_m H c9
    refine x_iload_n dX12_qFact_89 rfl 1 rfl ?_
    refine x_bipush (v := 62) dX12_qFact_90 (by decide) ?_
    refine x_icmp_ne (tgt := 100) dX12_qFact_92 (by decide) (fun c10 => ?_) (fun c10 => ?_)
    · replace H := ite_m H c10
      refine x_bipush (v := 9) dX12_qFact_100 (by decide) ?_
      refine Ex.sub [] rfl ?_
      exact t_X12_qFact_102 hd H
    · replace H := ite_p H c10
      refine x_bipush (v := 8) dX12_qFact_95 (by decide) ?_
      refine x_goto (tgt := 102) dX12_qFact_97 (by decide) ?_
      refine Ex.sub [] rfl ?_
      exact t_X12_qFact_102 hd H
  · replace H := ite_p H c9
    refine x_bipush (v := 7) dX12_qFact_84 (by decide) ?_
    refine x_goto (tgt := 102) dX12_qFact_86 (by decide) ?_
    refine Ex.sub [] rfl ?_
    exact t_X12_qFact_102 hd H
def f_X12_qFact (x0 : Nat) (h : aH) : Option (Unit × aH) :=
  ko h x0 11 <|
  kr (hR h x0 75) fun a12 =>
  bd (f_X12_takes x0 a12 h) fun v14 h15 =>
  if v14 = 0 then
    ko h15 x0 11 <|
    bd (f_X12_qSums x0 h15) fun _ h19 =>
    ko h19 x0 11 <|
    if (hI h19 x0 5) = 0 then
      bd (f_X12_look x0 h19) fun v23 h24 =>
      if v23 = 60 then
        f_X12_qFact_63 x0 v23 h24
      else
        if v23 = 62 then
          f_X12_qFact_63 x0 v23 h24
        else
          if v23 = 61 then
            f_X12_qFact_63 x0 v23 h24
          else
            ko h24 x0 11 <|
            bd (f_X12_fail x0 1 (hI h24 x0 2) h24) fun _ h31 =>
            some ((), h31)
    else
      some ((), h19)
  else
    ko h15 x0 11 <|
    bd (f_X12_qCode x0 13 h15) fun _ h35 =>
    some ((), h35)
set_option maxRecDepth 100000 in
set_option maxHeartbeats 4000000 in
theorem t_X12_qFact {Γ : gS} {d : Nat} (hd : 7 ≤ d) {x0 : Nat} {h : aH} {r : Unit} {h' : aH} (H : f_X12_qFact x0 h = some (r, h')) : Mx Γ gX12_qFact d [.ref x0] h none h' := by
  refine Mx.of (by decide +kernel) (Nat.le_of_ble_eq_true rfl) ?_
  unfold f_X12_qFact at H
  show Ex Γ gX12_qFact d 0 [(0, .ref x0)] [] h none h'
  obtain ⟨d, rfl⟩ : ∃ e, d = e + 1 := ⟨d - 1, by omega⟩
  refine x_aload_n dX12_qFact_0 rfl 0 rfl ?_
  refine x_aload_n dX12_qFact_1 rfl 0 rfl ?_
  obtain ⟨c11, H⟩ := ko_o H
  obtain ⟨a12, c13, H⟩ := kr_o H
  refine x_getR fr_X12_162 dX12_qFact_2 c11 rfl c13 ?_
  obtain ⟨v14, h15, hc16, H⟩ := bd_o H
  refine x_callVi (As := [.ref a12]) (q := (RX12, TX12, 103)) dX12_qFact_5 mi_X12_takes lk_X12_252 im_X12_takes se_X12_takes rfl c11 rfl rfl (Nat.le_of_ble_eq_true rfl) (t_X12_takes (by omega) hc16) ?_
  refine x_if_eq (tgt := 18) dX12_qFact_8 (by decide) (fun c17 => ?_) (fun c17 => ?_)
  · replace H := ite_p H c17
    refine x_aload_n dX12_qFact_18 rfl 0 rfl ?_
    obtain ⟨c33, H⟩ := ko_o H
    obtain ⟨v18, h19, hc20, H⟩ := bd_o H
    refine x_callVv (As := []) (q := (RX12, TX12, 103)) dX12_qFact_19 mi_X12_qSums lk_X12_321 im_X12_qSums se_X12_qSums rfl c33 rfl rfl (Nat.le_of_ble_eq_true rfl) (t_X12_qSums (by omega) hc20) ?_
    refine x_aload_n dX12_qFact_22 rfl 0 rfl ?_
    obtain ⟨c21, H⟩ := ko_o H
    refine x_getI fr_X12_225 dX12_qFact_23 c21 rfl ?_
    refine x_if_eq (tgt := 30) dX12_qFact_26 (by decide) (fun c22 => ?_) (fun c22 => ?_)
    · replace H := ite_p H c22
      refine x_aload_n dX12_qFact_30 rfl 0 rfl ?_
      obtain ⟨v23, h24, hc25, H⟩ := bd_o H
      refine x_callVi (As := []) (q := (RX12, TX12, 103)) dX12_qFact_31 mi_X12_look lk_X12_237 im_X12_look se_X12_look rfl c21 rfl rfl (Nat.le_of_ble_eq_true rfl) (t_X12_look (by omega) hc25) ?_
      refine x_istore_n (lv' := [(1, .int v23), (0, .ref x0)]) dX12_qFact_34 rfl (by decide) rfl rfl ?_
      refine x_iload_n dX12_qFact_35 rfl 0 rfl ?_
      refine x_bipush (v := 60) dX12_qFact_36 (by decide) ?_
      refine x_icmp_eq (tgt := 63) dX12_qFact_38 (by decide) (fun c26 => ?_) (fun c26 => ?_)
      · replace H := ite_p H c26
        refine Ex.sub [1, 0] rfl ?_
        exact t_X12_qFact_63 hd H
      · replace H := ite_m H c26
        refine x_iload_n dX12_qFact_41 rfl 0 rfl ?_
        refine x_bipush (v := 62) dX12_qFact_42 (by decide) ?_
        refine x_icmp_eq (tgt := 63) dX12_qFact_44 (by decide) (fun c27 => ?_) (fun c27 => ?_)
        · replace H := ite_p H c27
          refine Ex.sub [1, 0] rfl ?_
          exact t_X12_qFact_63 hd H
        · replace H := ite_m H c27
          refine x_iload_n dX12_qFact_47 rfl 0 rfl ?_
          refine x_bipush (v := 61) dX12_qFact_48 (by decide) ?_
          refine x_icmp_eq (tgt := 63) dX12_qFact_50 (by decide) (fun c28 => ?_) (fun c28 => ?_)
          · replace H := ite_p H c28
            refine Ex.sub [1, 0] rfl ?_
            exact t_X12_qFact_63 hd H
          · replace H := ite_m H c28
            refine x_aload_n dX12_qFact_53 rfl 1 rfl ?_
            refine x_iconst (v := 1) dX12_qFact_54 (by decide) ?_
            refine x_aload_n dX12_qFact_55 rfl 1 rfl ?_
            obtain ⟨c29, H⟩ := ko_o H
            refine x_getI fr_X12_231 dX12_qFact_56 c29 rfl ?_
            obtain ⟨v30, h31, hc32, H⟩ := bd_o H
            refine x_callVv (As := [.int 1, .int (hI h24 x0 2)]) (q := (RX12, TX12, 103)) dX12_qFact_59 mi_X12_fail lk_X12_255 im_X12_fail se_X12_fail rfl c29 rfl rfl (Nat.le_of_ble_eq_true rfl) (t_X12_fail (by omega) hc32) ?_
            obtain ⟨-, rfl⟩ := so_1 H
            exact x_vret dX12_qFact_62 rfl
    · replace H := ite_m H c22
      obtain ⟨-, rfl⟩ := so_1 H
      exact x_vret dX12_qFact_29 rfl
  · replace H := ite_m H c17
    refine x_aload_n dX12_qFact_11 rfl 0 rfl ?_
    refine x_bipush (v := 13) dX12_qFact_12 (by decide) ?_
    obtain ⟨c37, H⟩ := ko_o H
    obtain ⟨v34, h35, hc36, H⟩ := bd_o H
    refine x_callVv (As := [.int 13]) (q := (RX12, TX12, 103)) dX12_qFact_14 mi_X12_qCode lk_X12_575 im_X12_qCode se_X12_qCode rfl c37 rfl rfl (Nat.le_of_ble_eq_true rfl) (t_X12_qCode (by omega) hc36) ?_
    obtain ⟨-, rfl⟩ := so_1 H
    exact x_vret dX12_qFact_17 rfl
def b_X12_qHasSquare_2 (k2 : Nat → Int32 → aH → Option (Int32 × aH)) (x0 : Nat) (x1 : Int32) (h : aH) : Option (Int32 × aH) :=
  ko h x0 11 <|
  if (hI h x0 94) ≤ x1 then
    some (0, h)
  else
    kr (hR h x0 93) fun a3 =>
    ka h a3 .int fun n6 =>
    chk (inb x1 n6 = true) <|
    if (hI h a3 x1.toNatClampNeg) = 25 then
      some (1, h)
    else
      nm (x1 + 1) fun (v9 : Int32) =>
      k2 x0 v9 h
set_option maxRecDepth 100000 in
set_option maxHeartbeats 4000000 in
theorem tb_X12_qHasSquare_2 {Γ : gS} {d : Nat} (hd : 0 ≤ d) {k2 : Nat → Int32 → aH → Option (Int32 × aH)} (hk2 : ∀ {x0 : Nat} {x1 : Int32} {h : aH} {r : Int32} {h' : aH}, k2 x0 x1 h = some (r, h') → Ex Γ gX12_qHasSquare d 2 [(0, .ref x0), (1, .int x1)] [] h (some (.int r)) h') {x0 : Nat} {x1 : Int32} {h : aH} {r : Int32} {h' : aH} (H : b_X12_qHasSquare_2 k2 x0 x1 h = some (r, h')) : Ex Γ gX12_qHasSquare d 2 [(0, .ref x0), (1, .int x1)] [] h (some (.int r)) h' := by
  unfold b_X12_qHasSquare_2 at H
  refine x_iload_n dX12_qHasSquare_2 rfl 1 rfl ?_
  refine x_aload_n dX12_qHasSquare_3 rfl 0 rfl ?_
  obtain ⟨c1, H⟩ := ko_o H
  refine x_getI fr_X12_309 dX12_qHasSquare_4 c1 rfl ?_
  refine x_icmp_ge (tgt := 29) dX12_qHasSquare_7 (by decide) (fun c2 => ?_) (fun c2 => ?_)
  · replace H := ite_p H c2
    refine x_iconst (v := 0) dX12_qHasSquare_29 (by decide) ?_
    obtain ⟨rfl, rfl⟩ := so_1 H
    exact x_iret dX12_qHasSquare_30 rfl (by decide)
  · replace H := ite_m H c2
    refine x_aload_n dX12_qHasSquare_10 rfl 0 rfl ?_
    obtain ⟨a3, c4, H⟩ := kr_o H
    refine x_getR fr_X12_213 dX12_qHasSquare_11 c1 rfl c4 ?_
    refine x_iload_n dX12_qHasSquare_14 rfl 1 rfl ?_
    obtain ⟨n6, c5, H⟩ := ka_o H
    obtain ⟨c7, H⟩ := chk_o H
    refine x_iald dX12_qHasSquare_15 c5 (inb_in.mp c7) ?_
    refine x_bipush (v := 25) dX12_qHasSquare_16 (by decide) ?_
    refine x_icmp_ne (tgt := 23) dX12_qHasSquare_18 (by decide) (fun c8 => ?_) (fun c8 => ?_)
    · replace H := ite_m H c8
      obtain ⟨v9, ev9, H⟩ := nm_o H
      refine x_iinc (v := v9) (lv' := [(1, .int v9), (0, .ref x0)]) dX12_qHasSquare_23 1 rfl (by decide) ev9 rfl ?_
      refine x_goto (tgt := 2) dX12_qHasSquare_26 (by decide) ?_
      refine Ex.sub [1, 0] rfl ?_
      exact hk2 H
    · replace H := ite_p H c8
      refine x_iconst (v := 1) dX12_qHasSquare_21 (by decide) ?_
      obtain ⟨rfl, rfl⟩ := so_1 H
      exact x_iret dX12_qHasSquare_22 rfl (by decide)
def f_X12_qHasSquare_2 : Nat → Nat → Int32 → aH → Option (Int32 × aH)
  | 0 => fun _ _ _ => none
  | n + 1 => b_X12_qHasSquare_2 (f_X12_qHasSquare_2 n)
set_option maxRecDepth 100000 in
set_option maxHeartbeats 4000000 in
theorem t_X12_qHasSquare_2 {Γ : gS} {d : Nat} (hd : 0 ≤ d) (n : Nat) : ∀ {x0 : Nat} {x1 : Int32} {h : aH} {r : Int32} {h' : aH}, f_X12_qHasSquare_2 n x0 x1 h = some (r, h') → Ex Γ gX12_qHasSquare d 2 [(0, .ref x0), (1, .int x1)] [] h (some (.int r)) h' := by
  induction n with
  | zero => intro x0 x1 h r h' H; cases H
  | succ n ih => intro x0 x1 h r h' H; exact tb_X12_qHasSquare_2 hd ih H
def f_X12_qHasSquare (x0 : Nat) (h : aH) : Option (Int32 × aH) :=
  f_X12_qHasSquare_2 FU x0 0 h
set_option maxRecDepth 100000 in
set_option maxHeartbeats 4000000 in
theorem t_X12_qHasSquare {Γ : gS} {d : Nat} (hd : 0 ≤ d) {x0 : Nat} {h : aH} {r : Int32} {h' : aH} (H : f_X12_qHasSquare x0 h = some (r, h')) : Mx Γ gX12_qHasSquare d [.ref x0] h (some (.int r)) h' := by
  refine Mx.of (by decide +kernel) (Nat.le_of_ble_eq_true rfl) ?_
  unfold f_X12_qHasSquare at H
  show Ex Γ gX12_qHasSquare d 0 [(0, .ref x0)] [] h (some (.int r)) h'
  refine x_iconst (v := 0) dX12_qHasSquare_0 (by decide) ?_
  refine x_istore_n (lv' := [(1, .int 0), (0, .ref x0)]) dX12_qHasSquare_1 rfl (by decide) rfl rfl ?_
  refine Ex.sub [1, 0] rfl ?_
  exact t_X12_qHasSquare_2 hd FU H
def b_X12_qGoesOnTest_33 (k0 : Nat → aH → Option (Int32 × aH)) (k33 : Nat → aH → Option (Int32 × aH)) (x0 : Nat) (h : aH) : Option (Int32 × aH) :=
  ko h x0 11 <|
  bd (f_X12_qIsOn x0 25 h) fun v1 h2 =>
  if v1 = 0 then
    ko h2 x0 11 <|
    bd (f_X12_qDrops x0 h2) fun _ h11 =>
    k33 x0 h11
  else
    ko h2 x0 11 <|
    nm (hI (sI h2 x0 94 ((hI h2 x0 94) - 1)) x0 95) fun (v6 : Int32) =>
    bd (f_X12_qDropsNots x0 (sI (sI h2 x0 94 ((hI h2 x0 94) - 1)) x0 95 (v6 - 1))) fun _ h8 =>
    k0 x0 h8
set_option maxRecDepth 100000 in
set_option maxHeartbeats 4000000 in
theorem tb_X12_qGoesOnTest_33 {Γ : gS} {d : Nat} (hd : 3 ≤ d) {k0 : Nat → aH → Option (Int32 × aH)} (hk0 : ∀ {x0 : Nat} {h : aH} {r : Int32} {h' : aH}, k0 x0 h = some (r, h') → Ex Γ gX12_qGoesOnTest d 0 [(0, .ref x0)] [] h (some (.int r)) h') {k33 : Nat → aH → Option (Int32 × aH)} (hk33 : ∀ {x0 : Nat} {h : aH} {r : Int32} {h' : aH}, k33 x0 h = some (r, h') → Ex Γ gX12_qGoesOnTest d 33 [(0, .ref x0)] [] h (some (.int r)) h') {x0 : Nat} {h : aH} {r : Int32} {h' : aH} (H : b_X12_qGoesOnTest_33 k0 k33 x0 h = some (r, h')) : Ex Γ gX12_qGoesOnTest d 33 [(0, .ref x0)] [] h (some (.int r)) h' := by
  unfold b_X12_qGoesOnTest_33 at H
  obtain ⟨d, rfl⟩ : ∃ e, d = e + 1 := ⟨d - 1, by omega⟩
  refine x_aload_n dX12_qGoesOnTest_33 rfl 0 rfl ?_
  refine x_bipush (v := 25) dX12_qGoesOnTest_34 (by decide) ?_
  obtain ⟨c14, H⟩ := ko_o H
  obtain ⟨v1, h2, hc3, H⟩ := bd_o H
  refine x_callVi (As := [.int 25]) (q := (RX12, TX12, 103)) dX12_qGoesOnTest_36 mi_X12_qIsOn lk_X12_608 im_X12_qIsOn se_X12_qIsOn rfl c14 rfl rfl (Nat.le_of_ble_eq_true rfl) (t_X12_qIsOn (by omega) hc3) ?_
  refine x_if_ne (tgt := 49) dX12_qGoesOnTest_39 (by decide) (fun c4 => ?_) (fun c4 => ?_)
  · replace H := ite_m H c4
    refine x_aload_n dX12_qGoesOnTest_49 rfl 0 rfl ?_
    refine x_dup dX12_qGoesOnTest_50 rfl ?_
    obtain ⟨c5, H⟩ := ko_o H
    refine x_getI fr_X12_309 dX12_qGoesOnTest_51 c5 rfl ?_
    refine x_iconst (v := 1) dX12_qGoesOnTest_54 (by decide) ?_
    refine x_isub dX12_qGoesOnTest_55 ?_
    refine x_putI fl_X12_309 dX12_qGoesOnTest_56 c5 (fun e => by cases e) rfl ?_
    refine x_aload_n dX12_qGoesOnTest_59 rfl 0 rfl ?_
    refine x_dup dX12_qGoesOnTest_60 rfl ?_
    obtain ⟨v6, ev6, H⟩ := nm_o H
    refine x_getIe fr_X12_312 dX12_qGoesOnTest_61 c5 rfl ev6 ?_
    refine x_iconst (v := 1) dX12_qGoesOnTest_64 (by decide) ?_
    refine x_isub dX12_qGoesOnTest_65 ?_
    refine x_putI fl_X12_312 dX12_qGoesOnTest_66 c5 (fun e => by cases e) rfl ?_
    refine x_aload_n dX12_qGoesOnTest_69 rfl 0 rfl ?_
    obtain ⟨v7, h8, hc9, H⟩ := bd_o H
    refine x_callVv (As := []) (q := (RX12, TX12, 103)) dX12_qGoesOnTest_70 mi_X12_qDropsNots lk_X12_620 im_X12_qDropsNots se_X12_qDropsNots rfl c5 rfl rfl (Nat.le_of_ble_eq_true rfl) (t_X12_qDropsNots (by omega) hc9) ?_
    refine x_goto (tgt := 0) dX12_qGoesOnTest_73 (by decide) ?_
    exact hk0 H
  · replace H := ite_p H c4
    refine x_aload_n dX12_qGoesOnTest_42 rfl 0 rfl ?_
    obtain ⟨c13, H⟩ := ko_o H
    obtain ⟨v10, h11, hc12, H⟩ := bd_o H
    refine x_callVv (As := []) (q := (RX12, TX12, 103)) dX12_qGoesOnTest_43 mi_X12_qDrops lk_X12_581 im_X12_qDrops se_X12_qDrops rfl c13 rfl rfl (Nat.le_of_ble_eq_true rfl) (t_X12_qDrops (by omega) hc12) ?_
    refine x_goto (tgt := 33) dX12_qGoesOnTest_46 (by decide) ?_
    exact hk33 H
def f_X12_qGoesOnTest_33 (k0 : Nat → aH → Option (Int32 × aH)) : Nat → Nat → aH → Option (Int32 × aH)
  | 0 => fun _ _ => none
  | n + 1 => b_X12_qGoesOnTest_33 k0 (f_X12_qGoesOnTest_33 k0 n)
set_option maxRecDepth 100000 in
set_option maxHeartbeats 4000000 in
theorem t_X12_qGoesOnTest_33 {Γ : gS} {d : Nat} (hd : 3 ≤ d) {k0 : Nat → aH → Option (Int32 × aH)} (hk0 : ∀ {x0 : Nat} {h : aH} {r : Int32} {h' : aH}, k0 x0 h = some (r, h') → Ex Γ gX12_qGoesOnTest d 0 [(0, .ref x0)] [] h (some (.int r)) h') (n : Nat) : ∀ {x0 : Nat} {h : aH} {r : Int32} {h' : aH}, f_X12_qGoesOnTest_33 k0 n x0 h = some (r, h') → Ex Γ gX12_qGoesOnTest d 33 [(0, .ref x0)] [] h (some (.int r)) h' := by
  induction n with
  | zero => intro x0 h r h' H; cases H
  | succ n ih => intro x0 h r h' H; exact tb_X12_qGoesOnTest_33 hd hk0 ih H
def b_X12_qGoesOnTest_87 (k87 : Nat → aH → Option (Int32 × aH)) (x0 : Nat) (h : aH) : Option (Int32 × aH) :=
  ko h x0 11 <|
  bd (f_X12_qIsOn x0 10 h) fun v15 h16 =>
  if v15 = 0 then
    ko h16 x0 11 <|
    kr (hR h16 x0 93) fun a20 =>
    ka h16 a20 .int fun n23 =>
    chk (inb (hI h16 x0 94) n23 = true) <|
    nm (hI (sI h16 a20 (hI h16 x0 94 : Int32).toNatClampNeg 10) x0 94) fun (v25 : Int32) =>
    some (1, sI (sI h16 a20 (hI h16 x0 94 : Int32).toNatClampNeg 10) x0 94 (v25 + 1))
  else
    ko h16 x0 11 <|
    bd (f_X12_qDrops x0 h16) fun _ h27 =>
    k87 x0 h27
set_option maxRecDepth 100000 in
set_option maxHeartbeats 4000000 in
theorem tb_X12_qGoesOnTest_87 {Γ : gS} {d : Nat} (hd : 3 ≤ d) {k87 : Nat → aH → Option (Int32 × aH)} (hk87 : ∀ {x0 : Nat} {h : aH} {r : Int32} {h' : aH}, k87 x0 h = some (r, h') → Ex Γ gX12_qGoesOnTest d 87 [(0, .ref x0)] [] h (some (.int r)) h') {x0 : Nat} {h : aH} {r : Int32} {h' : aH} (H : b_X12_qGoesOnTest_87 k87 x0 h = some (r, h')) : Ex Γ gX12_qGoesOnTest d 87 [(0, .ref x0)] [] h (some (.int r)) h' := by
  unfold b_X12_qGoesOnTest_87 at H
  obtain ⟨d, rfl⟩ : ∃ e, d = e + 1 := ⟨d - 1, by omega⟩
  refine x_aload_n dX12_qGoesOnTest_87 rfl 0 rfl ?_
  refine x_bipush (v := 10) dX12_qGoesOnTest_88 (by decide) ?_
  obtain ⟨c30, H⟩ := ko_o H
  obtain ⟨v15, h16, hc17, H⟩ := bd_o H
  refine x_callVi (As := [.int 10]) (q := (RX12, TX12, 103)) dX12_qGoesOnTest_90 mi_X12_qIsOn lk_X12_608 im_X12_qIsOn se_X12_qIsOn rfl c30 rfl rfl (Nat.le_of_ble_eq_true rfl) (t_X12_qIsOn (by omega) hc17) ?_
  refine x_if_eq (tgt := 103) dX12_qGoesOnTest_93 (by decide) (fun c18 => ?_) (fun c18 => ?_)
  · replace H := ite_p H c18
    refine x_aload_n dX12_qGoesOnTest_103 rfl 0 rfl ?_
    obtain ⟨c19, H⟩ := ko_o H
    obtain ⟨a20, c21, H⟩ := kr_o H
    refine x_getR fr_X12_213 dX12_qGoesOnTest_104 c19 rfl c21 ?_
    refine x_aload_n dX12_qGoesOnTest_107 rfl 0 rfl ?_
    refine x_getI fr_X12_309 dX12_qGoesOnTest_108 c19 rfl ?_
    refine x_bipush (v := 10) dX12_qGoesOnTest_111 (by decide) ?_
    obtain ⟨n23, c22, H⟩ := ka_o H
    obtain ⟨c24, H⟩ := chk_o H
    refine x_iast dX12_qGoesOnTest_113 c22 (inb_in.mp c24) ?_
    refine x_aload_n dX12_qGoesOnTest_114 rfl 0 rfl ?_
    refine x_dup dX12_qGoesOnTest_115 rfl ?_
    obtain ⟨v25, ev25, H⟩ := nm_o H
    refine x_getIe fr_X12_309 dX12_qGoesOnTest_116 c19 rfl ev25 ?_
    refine x_iconst (v := 1) dX12_qGoesOnTest_119 (by decide) ?_
    refine x_iadd dX12_qGoesOnTest_120 ?_
    refine x_putI fl_X12_309 dX12_qGoesOnTest_121 c19 (fun e => by cases e) rfl ?_
    refine x_iconst (v := 1) dX12_qGoesOnTest_124 (by decide) ?_
    obtain ⟨rfl, rfl⟩ := so_1 H
    exact x_iret dX12_qGoesOnTest_125 rfl (by decide)
  · replace H := ite_m H c18
    refine x_aload_n dX12_qGoesOnTest_96 rfl 0 rfl ?_
    obtain ⟨c29, H⟩ := ko_o H
    obtain ⟨v26, h27, hc28, H⟩ := bd_o H
    refine x_callVv (As := []) (q := (RX12, TX12, 103)) dX12_qGoesOnTest_97 mi_X12_qDrops lk_X12_581 im_X12_qDrops se_X12_qDrops rfl c29 rfl rfl (Nat.le_of_ble_eq_true rfl) (t_X12_qDrops (by omega) hc28) ?_
    refine x_goto (tgt := 87) dX12_qGoesOnTest_100 (by decide) ?_
    exact hk87 H
def f_X12_qGoesOnTest_87 : Nat → Nat → aH → Option (Int32 × aH)
  | 0 => fun _ _ => none
  | n + 1 => b_X12_qGoesOnTest_87 (f_X12_qGoesOnTest_87 n)
set_option maxRecDepth 100000 in
set_option maxHeartbeats 4000000 in
theorem t_X12_qGoesOnTest_87 {Γ : gS} {d : Nat} (hd : 3 ≤ d) (n : Nat) : ∀ {x0 : Nat} {h : aH} {r : Int32} {h' : aH}, f_X12_qGoesOnTest_87 n x0 h = some (r, h') → Ex Γ gX12_qGoesOnTest d 87 [(0, .ref x0)] [] h (some (.int r)) h' := by
  induction n with
  | zero => intro x0 h r h' H; cases H
  | succ n ih => intro x0 h r h' H; exact tb_X12_qGoesOnTest_87 hd ih H
def f_X12_qGoesOnTest_155 (k137 : Nat → aH → Option (Int32 × aH)) (x0 : Nat) (h : aH) : Option (Int32 × aH) :=
  ko h x0 11 <|
  bd (f_X12_qDrops x0 h) fun _ h32 =>
  k137 x0 h32
set_option maxRecDepth 100000 in
set_option maxHeartbeats 4000000 in
theorem t_X12_qGoesOnTest_155 {Γ : gS} {d : Nat} (hd : 3 ≤ d) {k137 : Nat → aH → Option (Int32 × aH)} (hk137 : ∀ {x0 : Nat} {h : aH} {r : Int32} {h' : aH}, k137 x0 h = some (r, h') → Ex Γ gX12_qGoesOnTest d 137 [(0, .ref x0)] [] h (some (.int r)) h') {x0 : Nat} {h : aH} {r : Int32} {h' : aH} (H : f_X12_qGoesOnTest_155 k137 x0 h = some (r, h')) : Ex Γ gX12_qGoesOnTest d 155 [(0, .ref x0)] [] h (some (.int r)) h' := by
  unfold f_X12_qGoesOnTest_155 at H
  obtain ⟨d, rfl⟩ : ∃ e, d = e + 1 := ⟨d - 1, by omega⟩
  refine x_aload_n dX12_qGoesOnTest_155 rfl 0 rfl ?_
  obtain ⟨c34, H⟩ := ko_o H
  obtain ⟨v31, h32, hc33, H⟩ := bd_o H
  refine x_callVv (As := []) (q := (RX12, TX12, 103)) dX12_qGoesOnTest_156 mi_X12_qDrops lk_X12_581 im_X12_qDrops se_X12_qDrops rfl c34 rfl rfl (Nat.le_of_ble_eq_true rfl) (t_X12_qDrops (by omega) hc33) ?_
  refine x_goto (tgt := 137) dX12_qGoesOnTest_159 (by decide) ?_
  exact hk137 H
def b_X12_qGoesOnTest_137 (k137 : Nat → aH → Option (Int32 × aH)) (x0 : Nat) (h : aH) : Option (Int32 × aH) :=
  ko h x0 11 <|
  bd (f_X12_qIsOn x0 10 h) fun v35 h36 =>
  if v35 = 0 then
    ko h36 x0 11 <|
    bd (f_X12_qIsOn x0 11 h36) fun v39 h40 =>
    if v39 = 0 then
      ko h40 x0 11 <|
      kr (hR h40 x0 93) fun a44 =>
      ka h40 a44 .int fun n47 =>
      chk (inb (hI h40 x0 94) n47 = true) <|
      nm (hI (sI h40 a44 (hI h40 x0 94 : Int32).toNatClampNeg 11) x0 94) fun (v49 : Int32) =>
      some (1, sI (sI h40 a44 (hI h40 x0 94 : Int32).toNatClampNeg 11) x0 94 (v49 + 1))
    else
      f_X12_qGoesOnTest_155 k137 x0 h40
  else
    f_X12_qGoesOnTest_155 k137 x0 h36
set_option maxRecDepth 100000 in
set_option maxHeartbeats 4000000 in
theorem tb_X12_qGoesOnTest_137 {Γ : gS} {d : Nat} (hd : 3 ≤ d) {k137 : Nat → aH → Option (Int32 × aH)} (hk137 : ∀ {x0 : Nat} {h : aH} {r : Int32} {h' : aH}, k137 x0 h = some (r, h') → Ex Γ gX12_qGoesOnTest d 137 [(0, .ref x0)] [] h (some (.int r)) h') {x0 : Nat} {h : aH} {r : Int32} {h' : aH} (H : b_X12_qGoesOnTest_137 k137 x0 h = some (r, h')) : Ex Γ gX12_qGoesOnTest d 137 [(0, .ref x0)] [] h (some (.int r)) h' := by
  unfold b_X12_qGoesOnTest_137 at H
  obtain ⟨d, rfl⟩ : ∃ e, d = e + 1 := ⟨d - 1, by omega⟩
  refine x_aload_n dX12_qGoesOnTest_137 rfl 0 rfl ?_
  refine x_bipush (v := 10) dX12_qGoesOnTest_138 (by decide) ?_
  obtain ⟨c51, H⟩ := ko_o H
  obtain ⟨v35, h36, hc37, H⟩ := bd_o H
  refine x_callVi (As := [.int 10]) (q := (RX12, TX12, 103)) dX12_qGoesOnTest_140 mi_X12_qIsOn lk_X12_608 im_X12_qIsOn se_X12_qIsOn rfl c51 rfl rfl (Nat.le_of_ble_eq_true rfl) (t_X12_qIsOn (by omega) hc37) ?_
  refine x_if_ne (tgt := 155) dX12_qGoesOnTest_143 (by decide) (fun c38 => ?_) (fun c38 => ?_)
  · replace H := ite_m H c38
    exact t_X12_qGoesOnTest_155 hd hk137 H
  · replace H := ite_p H c38
    refine x_aload_n dX12_qGoesOnTest_146 rfl 0 rfl ?_
    refine x_bipush (v := 11) dX12_qGoesOnTest_147 (by decide) ?_
    obtain ⟨c50, H⟩ := ko_o H
    obtain ⟨v39, h40, hc41, H⟩ := bd_o H
    refine x_callVi (As := [.int 11]) (q := (RX12, TX12, 103)) dX12_qGoesOnTest_149 mi_X12_qIsOn lk_X12_608 im_X12_qIsOn se_X12_qIsOn rfl c50 rfl rfl (Nat.le_of_ble_eq_true rfl) (t_X12_qIsOn (by omega) hc41) ?_
    refine x_if_eq (tgt := 162) dX12_qGoesOnTest_152 (by decide) (fun c42 => ?_) (fun c42 => ?_)
    · replace H := ite_p H c42
      refine x_aload_n dX12_qGoesOnTest_162 rfl 0 rfl ?_
      obtain ⟨c43, H⟩ := ko_o H
      obtain ⟨a44, c45, H⟩ := kr_o H
      refine x_getR fr_X12_213 dX12_qGoesOnTest_163 c43 rfl c45 ?_
      refine x_aload_n dX12_qGoesOnTest_166 rfl 0 rfl ?_
      refine x_getI fr_X12_309 dX12_qGoesOnTest_167 c43 rfl ?_
      refine x_bipush (v := 11) dX12_qGoesOnTest_170 (by decide) ?_
      obtain ⟨n47, c46, H⟩ := ka_o H
      obtain ⟨c48, H⟩ := chk_o H
      refine x_iast dX12_qGoesOnTest_172 c46 (inb_in.mp c48) ?_
      refine x_aload_n dX12_qGoesOnTest_173 rfl 0 rfl ?_
      refine x_dup dX12_qGoesOnTest_174 rfl ?_
      obtain ⟨v49, ev49, H⟩ := nm_o H
      refine x_getIe fr_X12_309 dX12_qGoesOnTest_175 c43 rfl ev49 ?_
      refine x_iconst (v := 1) dX12_qGoesOnTest_178 (by decide) ?_
      refine x_iadd dX12_qGoesOnTest_179 ?_
      refine x_putI fl_X12_309 dX12_qGoesOnTest_180 c43 (fun e => by cases e) rfl ?_
      refine x_iconst (v := 1) dX12_qGoesOnTest_183 (by decide) ?_
      obtain ⟨rfl, rfl⟩ := so_1 H
      exact x_iret dX12_qGoesOnTest_184 rfl (by decide)
    · replace H := ite_m H c42
      exact t_X12_qGoesOnTest_155 hd hk137 H
def f_X12_qGoesOnTest_137 : Nat → Nat → aH → Option (Int32 × aH)
  | 0 => fun _ _ => none
  | n + 1 => b_X12_qGoesOnTest_137 (f_X12_qGoesOnTest_137 n)
set_option maxRecDepth 100000 in
set_option maxHeartbeats 4000000 in
theorem t_X12_qGoesOnTest_137 {Γ : gS} {d : Nat} (hd : 3 ≤ d) (n : Nat) : ∀ {x0 : Nat} {h : aH} {r : Int32} {h' : aH}, f_X12_qGoesOnTest_137 n x0 h = some (r, h') → Ex Γ gX12_qGoesOnTest d 137 [(0, .ref x0)] [] h (some (.int r)) h' := by
  induction n with
  | zero => intro x0 h r h' H; cases H
  | succ n ih => intro x0 h r h' H; exact tb_X12_qGoesOnTest_137 hd ih H
def f_X12_qGoesOnTest_208 (h : aH) : Option (Int32 × aH) :=
  some (0, h)
set_option maxRecDepth 100000 in
set_option maxHeartbeats 4000000 in
theorem t_X12_qGoesOnTest_208 {Γ : gS} {d : Nat} (hd : 3 ≤ d) {h : aH} {r : Int32} {h' : aH} (H : f_X12_qGoesOnTest_208 h = some (r, h')) : Ex Γ gX12_qGoesOnTest d 208 [] [] h (some (.int r)) h' := by
  unfold f_X12_qGoesOnTest_208 at H
  obtain ⟨d, rfl⟩ : ∃ e, d = e + 1 := ⟨d - 1, by omega⟩
  refine x_iconst (v := 0) dX12_qGoesOnTest_208 (by decide) ?_
  obtain ⟨rfl, rfl⟩ := so_1 H
  exact x_iret dX12_qGoesOnTest_209 rfl (by decide)
def f_X12_qGoesOnTest_76 (x0 : Nat) (h : aH) : Option (Int32 × aH) :=
  ko h x0 11 <|
  kr (hR h x0 73) fun a53 =>
  bd (f_X12_takes x0 a53 h) fun v55 h56 =>
  if v55 = 0 then
    ko h56 x0 11 <|
    kr (hR h56 x0 74) fun a60 =>
    bd (f_X12_takes x0 a60 h56) fun v62 h63 =>
    if v62 = 0 then
      ko h63 x0 11 <|
      if (hI h63 x0 5) = 0 then
        bd (f_X12_qHasSquare x0 h63) fun v68 h69 =>
        if v68 = 0 then
          f_X12_qGoesOnTest_208 h69
        else
          ko h69 x0 11 <|
          bd (f_X12_fail x0 1 (hI h69 x0 2) h69) fun _ h74 =>
          f_X12_qGoesOnTest_208 h74
      else
        f_X12_qGoesOnTest_208 h63
    else
      f_X12_qGoesOnTest_137 FU x0 h63
  else
    f_X12_qGoesOnTest_87 FU x0 h56
set_option maxRecDepth 100000 in
set_option maxHeartbeats 4000000 in
theorem t_X12_qGoesOnTest_76 {Γ : gS} {d : Nat} (hd : 3 ≤ d) {x0 : Nat} {h : aH} {r : Int32} {h' : aH} (H : f_X12_qGoesOnTest_76 x0 h = some (r, h')) : Ex Γ gX12_qGoesOnTest d 76 [(0, .ref x0)] [] h (some (.int r)) h' := by
  unfold f_X12_qGoesOnTest_76 at H
  obtain ⟨d, rfl⟩ : ∃ e, d = e + 1 := ⟨d - 1, by omega⟩
  refine x_aload_n dX12_qGoesOnTest_76 rfl 0 rfl ?_
  refine x_aload_n dX12_qGoesOnTest_77 rfl 0 rfl ?_
  obtain ⟨c52, H⟩ := ko_o H
  obtain ⟨a53, c54, H⟩ := kr_o H
  refine x_getR fr_X12_156 dX12_qGoesOnTest_78 c52 rfl c54 ?_
  obtain ⟨v55, h56, hc57, H⟩ := bd_o H
  refine x_callVi (As := [.ref a53]) (q := (RX12, TX12, 103)) dX12_qGoesOnTest_81 mi_X12_takes lk_X12_252 im_X12_takes se_X12_takes rfl c52 rfl rfl (Nat.le_of_ble_eq_true rfl) (t_X12_takes (by omega) hc57) ?_
  refine x_if_eq (tgt := 126) dX12_qGoesOnTest_84 (by decide) (fun c58 => ?_) (fun c58 => ?_)
  · replace H := ite_p H c58
    refine x_aload_n dX12_qGoesOnTest_126 rfl 0 rfl ?_
    refine x_aload_n dX12_qGoesOnTest_127 rfl 0 rfl ?_
    obtain ⟨c59, H⟩ := ko_o H
    obtain ⟨a60, c61, H⟩ := kr_o H
    refine x_getR fr_X12_159 dX12_qGoesOnTest_128 c59 rfl c61 ?_
    obtain ⟨v62, h63, hc64, H⟩ := bd_o H
    refine x_callVi (As := [.ref a60]) (q := (RX12, TX12, 103)) dX12_qGoesOnTest_131 mi_X12_takes lk_X12_252 im_X12_takes se_X12_takes rfl c59 rfl rfl (Nat.le_of_ble_eq_true rfl) (t_X12_takes (by omega) hc64) ?_
    refine x_if_eq (tgt := 185) dX12_qGoesOnTest_134 (by decide) (fun c65 => ?_) (fun c65 => ?_)
    · replace H := ite_p H c65
      refine x_aload_n dX12_qGoesOnTest_185 rfl 0 rfl ?_
      obtain ⟨c66, H⟩ := ko_o H
      refine x_getI fr_X12_225 dX12_qGoesOnTest_186 c66 rfl ?_
      refine x_if_ne (tgt := 208) dX12_qGoesOnTest_189 (by decide) (fun c67 => ?_) (fun c67 => ?_)
      · replace H := ite_m H c67
        refine Ex.sub [] rfl ?_
        exact t_X12_qGoesOnTest_208 hd H
      · replace H := ite_p H c67
        refine x_aload_n dX12_qGoesOnTest_192 rfl 0 rfl ?_
        obtain ⟨v68, h69, hc70, H⟩ := bd_o H
        refine x_callVi (As := []) (q := (RX12, TX12, 103)) dX12_qGoesOnTest_193 mi_X12_qHasSquare lk_X12_626 im_X12_qHasSquare se_X12_qHasSquare rfl c66 rfl rfl (Nat.le_of_ble_eq_true rfl) (t_X12_qHasSquare (by omega) hc70) ?_
        refine x_if_eq (tgt := 208) dX12_qGoesOnTest_196 (by decide) (fun c71 => ?_) (fun c71 => ?_)
        · replace H := ite_p H c71
          refine Ex.sub [] rfl ?_
          exact t_X12_qGoesOnTest_208 hd H
        · replace H := ite_m H c71
          refine x_aload_n dX12_qGoesOnTest_199 rfl 0 rfl ?_
          refine x_iconst (v := 1) dX12_qGoesOnTest_200 (by decide) ?_
          refine x_aload_n dX12_qGoesOnTest_201 rfl 0 rfl ?_
          obtain ⟨c72, H⟩ := ko_o H
          refine x_getI fr_X12_231 dX12_qGoesOnTest_202 c72 rfl ?_
          obtain ⟨v73, h74, hc75, H⟩ := bd_o H
          refine x_callVv (As := [.int 1, .int (hI h69 x0 2)]) (q := (RX12, TX12, 103)) dX12_qGoesOnTest_205 mi_X12_fail lk_X12_255 im_X12_fail se_X12_fail rfl c72 rfl rfl (Nat.le_of_ble_eq_true rfl) (t_X12_fail (by omega) hc75) ?_
          refine Ex.sub [] rfl ?_
          exact t_X12_qGoesOnTest_208 hd H
    · replace H := ite_m H c65
      exact t_X12_qGoesOnTest_137 hd FU H
  · replace H := ite_m H c58
    exact t_X12_qGoesOnTest_87 hd FU H
def b_X12_qGoesOnTest_0 (k0 : Nat → aH → Option (Int32 × aH)) (x0 : Nat) (h : aH) : Option (Int32 × aH) :=
  ko h x0 11 <|
  if (hI h x0 5) = 0 then
    bd (f_X12_look x0 h) fun v78 h79 =>
    if v78 = 93 then
      ko h79 x0 11 <|
      bd (f_X12_qHasSquare x0 h79) fun v82 h83 =>
      if v82 = 0 then
        f_X12_qGoesOnTest_76 x0 h83
      else
        ko h83 x0 11 <|
        f_X12_qGoesOnTest_33 k0 FU x0 (sI h83 x0 2 ((hI h83 x0 2) + 1))
    else
      f_X12_qGoesOnTest_76 x0 h79
  else
    f_X12_qGoesOnTest_76 x0 h
set_option maxRecDepth 100000 in
set_option maxHeartbeats 4000000 in
theorem tb_X12_qGoesOnTest_0 {Γ : gS} {d : Nat} (hd : 3 ≤ d) {k0 : Nat → aH → Option (Int32 × aH)} (hk0 : ∀ {x0 : Nat} {h : aH} {r : Int32} {h' : aH}, k0 x0 h = some (r, h') → Ex Γ gX12_qGoesOnTest d 0 [(0, .ref x0)] [] h (some (.int r)) h') {x0 : Nat} {h : aH} {r : Int32} {h' : aH} (H : b_X12_qGoesOnTest_0 k0 x0 h = some (r, h')) : Ex Γ gX12_qGoesOnTest d 0 [(0, .ref x0)] [] h (some (.int r)) h' := by
  unfold b_X12_qGoesOnTest_0 at H
  obtain ⟨d, rfl⟩ : ∃ e, d = e + 1 := ⟨d - 1, by omega⟩
  refine x_aload_n dX12_qGoesOnTest_0 rfl 0 rfl ?_
  obtain ⟨c76, H⟩ := ko_o H
  refine x_getI fr_X12_225 dX12_qGoesOnTest_1 c76 rfl ?_
  refine x_if_ne (tgt := 76) dX12_qGoesOnTest_4 (by decide) (fun c77 => ?_) (fun c77 => ?_)
  · replace H := ite_m H c77
    exact t_X12_qGoesOnTest_76 hd H
  · replace H := ite_p H c77
    refine x_aload_n dX12_qGoesOnTest_7 rfl 0 rfl ?_
    obtain ⟨v78, h79, hc80, H⟩ := bd_o H
    refine x_callVi (As := []) (q := (RX12, TX12, 103)) dX12_qGoesOnTest_8 mi_X12_look lk_X12_237 im_X12_look se_X12_look rfl c76 rfl rfl (Nat.le_of_ble_eq_true rfl) (t_X12_look (by omega) hc80) ?_
    refine x_bipush (v := 93) dX12_qGoesOnTest_11 (by decide) ?_
    refine x_icmp_ne (tgt := 76) dX12_qGoesOnTest_13 (by decide) (fun c81 => ?_) (fun c81 => ?_)
    · replace H := ite_m H c81
      exact t_X12_qGoesOnTest_76 hd H
    · replace H := ite_p H c81
      refine x_aload_n dX12_qGoesOnTest_16 rfl 0 rfl ?_
      obtain ⟨c87, H⟩ := ko_o H
      obtain ⟨v82, h83, hc84, H⟩ := bd_o H
      refine x_callVi (As := []) (q := (RX12, TX12, 103)) dX12_qGoesOnTest_17 mi_X12_qHasSquare lk_X12_626 im_X12_qHasSquare se_X12_qHasSquare rfl c87 rfl rfl (Nat.le_of_ble_eq_true rfl) (t_X12_qHasSquare (by omega) hc84) ?_
      refine x_if_eq (tgt := 76) dX12_qGoesOnTest_20 (by decide) (fun c85 => ?_) (fun c85 => ?_)
      · replace H := ite_p H c85
        exact t_X12_qGoesOnTest_76 hd H
      · replace H := ite_m H c85
        refine x_aload_n dX12_qGoesOnTest_23 rfl 0 rfl ?_
        refine x_dup dX12_qGoesOnTest_24 rfl ?_
        obtain ⟨c86, H⟩ := ko_o H
        refine x_getI fr_X12_231 dX12_qGoesOnTest_25 c86 rfl ?_
        refine x_iconst (v := 1) dX12_qGoesOnTest_28 (by decide) ?_
        refine x_iadd dX12_qGoesOnTest_29 ?_
        refine x_putI fl_X12_231 dX12_qGoesOnTest_30 c86 (fun e => by cases e) rfl ?_
        exact t_X12_qGoesOnTest_33 hd hk0 FU H
def f_X12_qGoesOnTest_0 : Nat → Nat → aH → Option (Int32 × aH)
  | 0 => fun _ _ => none
  | n + 1 => b_X12_qGoesOnTest_0 (f_X12_qGoesOnTest_0 n)
set_option maxRecDepth 100000 in
set_option maxHeartbeats 4000000 in
theorem t_X12_qGoesOnTest_0 {Γ : gS} {d : Nat} (hd : 3 ≤ d) (n : Nat) : ∀ {x0 : Nat} {h : aH} {r : Int32} {h' : aH}, f_X12_qGoesOnTest_0 n x0 h = some (r, h') → Ex Γ gX12_qGoesOnTest d 0 [(0, .ref x0)] [] h (some (.int r)) h' := by
  induction n with
  | zero => intro x0 h r h' H; cases H
  | succ n ih => intro x0 h r h' H; exact tb_X12_qGoesOnTest_0 hd ih H
def f_X12_qGoesOnTest (x0 : Nat) (h : aH) : Option (Int32 × aH) :=
  f_X12_qGoesOnTest_0 FU x0 h
set_option maxRecDepth 100000 in
set_option maxHeartbeats 4000000 in
theorem t_X12_qGoesOnTest {Γ : gS} {d : Nat} (hd : 3 ≤ d) {x0 : Nat} {h : aH} {r : Int32} {h' : aH} (H : f_X12_qGoesOnTest x0 h = some (r, h')) : Mx Γ gX12_qGoesOnTest d [.ref x0] h (some (.int r)) h' := by
  refine Mx.of (by decide +kernel) (Nat.le_of_ble_eq_true rfl) ?_
  unfold f_X12_qGoesOnTest at H
  show Ex Γ gX12_qGoesOnTest d 0 [(0, .ref x0)] [] h (some (.int r)) h'
  obtain ⟨d, rfl⟩ : ∃ e, d = e + 1 := ⟨d - 1, by omega⟩
  exact t_X12_qGoesOnTest_0 hd FU H
