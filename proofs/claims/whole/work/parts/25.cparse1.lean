def SCCP (Γ : gS) (F : Nat → Nat → Int32 → aH → Option (Int32 × aH)) (d : Nat) : Prop := (∀ {x0 : Nat} {x1 : Int32} {h : aH} {r : Int32} {h' : aH}, F 0 x0 x1 h = some (r, h') → Mx Γ gX5_test d [.ref x0, .int x1] h (some (.int r)) h') ∧ (∀ {x0 : Nat} {x1 : Int32} {h : aH} {r : Int32} {h' : aH}, F 1 x0 x1 h = some (r, h') → Mx Γ gX5_both d [.ref x0, .int x1] h (some (.int r)) h') ∧ (∀ {x0 : Nat} {x1 : Int32} {h : aH} {r : Int32} {h' : aH}, F 2 x0 x1 h = some (r, h') → Mx Γ gX5_fact d [.ref x0, .int x1] h (some (.int r)) h') ∧ (∀ {x0 : Nat} {x1 : Int32} {h : aH} {r : Int32} {h' : aH}, F 3 x0 x1 h = some (r, h') → Mx Γ gX5_sum d [.ref x0, .int x1] h (some (.int r)) h') ∧ (∀ {x0 : Nat} {x1 : Int32} {h : aH} {r : Int32} {h' : aH}, F 4 x0 x1 h = some (r, h') → Mx Γ gX5_product d [.ref x0, .int x1] h (some (.int r)) h') ∧ (∀ {x0 : Nat} {x1 : Int32} {h : aH} {r : Int32} {h' : aH}, F 5 x0 x1 h = some (r, h') → Mx Γ gX5_part d [.ref x0, .int x1] h (some (.int r)) h') ∧ (∀ {x0 : Nat} {x1 : Int32} {h : aH} {r : Int32} {h' : aH}, F 6 x0 x1 h = some (r, h') → Mx Γ gX5_pair d [.ref x0, .int x1] h (some (.int r)) h') ∧ (∀ {x0 : Nat} {x1 : Int32} {h : aH} {r : Int32} {h' : aH}, F 7 x0 x1 h = some (r, h') → Mx Γ gX5_wordPart d [.ref x0, .int x1] h (some (.int r)) h')
theorem sccU_X5_test {Γ : gS} {F : Nat → Nat → Int32 → aH → Option (Int32 × aH)} {d : Nat} (hF : SCCP Γ F d) {x0 : Nat} {x1 : Int32} {h : aH} {r : Int32} {h' : aH} (H : F 0 x0 x1 h = some (r, h')) : Mx Γ gX5_test d [.ref x0, .int x1] h (some (.int r)) h' := hF.1 H
theorem sccU_X5_both {Γ : gS} {F : Nat → Nat → Int32 → aH → Option (Int32 × aH)} {d : Nat} (hF : SCCP Γ F d) {x0 : Nat} {x1 : Int32} {h : aH} {r : Int32} {h' : aH} (H : F 1 x0 x1 h = some (r, h')) : Mx Γ gX5_both d [.ref x0, .int x1] h (some (.int r)) h' := hF.2.1 H
theorem sccU_X5_fact {Γ : gS} {F : Nat → Nat → Int32 → aH → Option (Int32 × aH)} {d : Nat} (hF : SCCP Γ F d) {x0 : Nat} {x1 : Int32} {h : aH} {r : Int32} {h' : aH} (H : F 2 x0 x1 h = some (r, h')) : Mx Γ gX5_fact d [.ref x0, .int x1] h (some (.int r)) h' := hF.2.2.1 H
theorem sccU_X5_sum {Γ : gS} {F : Nat → Nat → Int32 → aH → Option (Int32 × aH)} {d : Nat} (hF : SCCP Γ F d) {x0 : Nat} {x1 : Int32} {h : aH} {r : Int32} {h' : aH} (H : F 3 x0 x1 h = some (r, h')) : Mx Γ gX5_sum d [.ref x0, .int x1] h (some (.int r)) h' := hF.2.2.2.1 H
theorem sccU_X5_product {Γ : gS} {F : Nat → Nat → Int32 → aH → Option (Int32 × aH)} {d : Nat} (hF : SCCP Γ F d) {x0 : Nat} {x1 : Int32} {h : aH} {r : Int32} {h' : aH} (H : F 4 x0 x1 h = some (r, h')) : Mx Γ gX5_product d [.ref x0, .int x1] h (some (.int r)) h' := hF.2.2.2.2.1 H
theorem sccU_X5_part {Γ : gS} {F : Nat → Nat → Int32 → aH → Option (Int32 × aH)} {d : Nat} (hF : SCCP Γ F d) {x0 : Nat} {x1 : Int32} {h : aH} {r : Int32} {h' : aH} (H : F 5 x0 x1 h = some (r, h')) : Mx Γ gX5_part d [.ref x0, .int x1] h (some (.int r)) h' := hF.2.2.2.2.2.1 H
theorem sccU_X5_pair {Γ : gS} {F : Nat → Nat → Int32 → aH → Option (Int32 × aH)} {d : Nat} (hF : SCCP Γ F d) {x0 : Nat} {x1 : Int32} {h : aH} {r : Int32} {h' : aH} (H : F 6 x0 x1 h = some (r, h')) : Mx Γ gX5_pair d [.ref x0, .int x1] h (some (.int r)) h' := hF.2.2.2.2.2.2.1 H
theorem sccU_X5_wordPart {Γ : gS} {F : Nat → Nat → Int32 → aH → Option (Int32 × aH)} {d : Nat} (hF : SCCP Γ F d) {x0 : Nat} {x1 : Int32} {h : aH} {r : Int32} {h' : aH} (H : F 7 x0 x1 h = some (r, h')) : Mx Γ gX5_wordPart d [.ref x0, .int x1] h (some (.int r)) h' := hF.2.2.2.2.2.2.2 H
def f_X5_test_63 (F : Nat → Nat → Int32 → aH → Option (Int32 × aH)) (h : aH) : Option (Int32 × aH) :=
  some (1, h)
set_option maxRecDepth 100000 in
set_option maxHeartbeats 4000000 in
theorem t_X5_test_63 {Γ : gS} {d : Nat} (hd : 8 ≤ d) {F : Nat → Nat → Int32 → aH → Option (Int32 × aH)} (hF : ∀ e, d = e + 1 → SCCP Γ F e) {h : aH} {r : Int32} {h' : aH} (H : f_X5_test_63 F h = some (r, h')) : Ex Γ gX5_test d 63 [] [] h (some (.int r)) h' := by
  unfold f_X5_test_63 at H
  obtain ⟨d, rfl⟩ : ∃ e, d = e + 1 := ⟨d - 1, by omega⟩
  refine x_iconst (v := 1) dX5_test_63 (by decide) ?_
  obtain ⟨rfl, rfl⟩ := so_1 H
  exact x_iret dX5_test_64 rfl (by decide)
def b_X5_test_12 (F : Nat → Nat → Int32 → aH → Option (Int32 × aH)) (k12 : Nat → Int32 → Int32 → aH → Option (Int32 × aH)) (x0 : Nat) (x1 : Int32) (x2 : Int32) (h : aH) : Option (Int32 × aH) :=
  if 1600 ≤ x2 then
    f_X5_test_63 F h
  else
    ko h x0 5 <|
    kr (hR h x0 2) fun a3 =>
    ko h a3 7 <|
    bd (f_X7_isWord a3 19 h) fun v5 h6 =>
    if v5 = 0 then
      f_X5_test_63 F h6
    else
      ko h6 x0 5 <|
      kr (hR h6 x0 2) fun a10 =>
      ko h6 a10 7 <|
      bd (f_X7_next a10 h6) fun _ h13 =>
      ko h13 x0 5 <|
      bd (F 1 x0 x1 h13) fun v15 h16 =>
      if v15 = 0 then
        some (0, h16)
      else
        ko h16 x0 5 <|
        kr (hR h16 x0 3) fun a20 =>
        ko h16 a20 4 <|
        bd (f_X4_addOperation a20 19 h16) fun _ h23 =>
        nm (x2 + 1) fun (v25 : Int32) =>
        k12 x0 x1 v25 h23
set_option maxRecDepth 100000 in
set_option maxHeartbeats 4000000 in
theorem tb_X5_test_12 {Γ : gS} {d : Nat} (hd : 8 ≤ d) {F : Nat → Nat → Int32 → aH → Option (Int32 × aH)} (hF : ∀ e, d = e + 1 → SCCP Γ F e) {k12 : Nat → Int32 → Int32 → aH → Option (Int32 × aH)} (hk12 : ∀ {x0 : Nat} {x1 : Int32} {x2 : Int32} {h : aH} {r : Int32} {h' : aH}, k12 x0 x1 x2 h = some (r, h') → Ex Γ gX5_test d 12 [(0, .ref x0), (1, .int x1), (2, .int x2)] [] h (some (.int r)) h') {x0 : Nat} {x1 : Int32} {x2 : Int32} {h : aH} {r : Int32} {h' : aH} (H : b_X5_test_12 F k12 x0 x1 x2 h = some (r, h')) : Ex Γ gX5_test d 12 [(0, .ref x0), (1, .int x1), (2, .int x2)] [] h (some (.int r)) h' := by
  unfold b_X5_test_12 at H
  obtain ⟨d, rfl⟩ : ∃ e, d = e + 1 := ⟨d - 1, by omega⟩
  refine x_iload_n dX5_test_12 rfl 2 rfl ?_
  refine x_sipush (v := 1600) dX5_test_13 (by decide) ?_
  refine x_icmp_ge (tgt := 63) dX5_test_16 (by decide) (fun c1 => ?_) (fun c1 => ?_)
  · replace H := ite_p H c1
    refine Ex.sub [] rfl ?_
    exact t_X5_test_63 hd hF H
  · replace H := ite_m H c1
    refine x_aload_n dX5_test_19 rfl 0 rfl ?_
    obtain ⟨c2, H⟩ := ko_o H
    obtain ⟨a3, c4, H⟩ := kr_o H
    refine x_getR fr_X5_23 dX5_test_20 c2 rfl c4 ?_
    refine x_bipush (v := 19) dX5_test_23 (by decide) ?_
    obtain ⟨c29, H⟩ := ko_o H
    obtain ⟨v5, h6, hc7, H⟩ := bd_o H
    refine x_callVi (As := [.int 19]) (q := (RX7, TX7, 6)) dX5_test_25 mi_X7_isWord lk_X5_138 im_X7_isWord se_X7_isWord rfl c29 rfl rfl (Nat.le_of_ble_eq_true rfl) (t_X7_isWord (by omega) hc7) ?_
    refine x_if_eq (tgt := 63) dX5_test_28 (by decide) (fun c8 => ?_) (fun c8 => ?_)
    · replace H := ite_p H c8
      refine Ex.sub [] rfl ?_
      exact t_X5_test_63 hd hF H
    · replace H := ite_m H c8
      refine x_aload_n dX5_test_31 rfl 0 rfl ?_
      obtain ⟨c9, H⟩ := ko_o H
      obtain ⟨a10, c11, H⟩ := kr_o H
      refine x_getR fr_X5_23 dX5_test_32 c9 rfl c11 ?_
      obtain ⟨c28, H⟩ := ko_o H
      obtain ⟨v12, h13, hc14, H⟩ := bd_o H
      refine x_callVv (As := []) (q := (RX7, TX7, 6)) dX5_test_35 mi_X7_next lk_X5_97 im_X7_next se_X7_next rfl c28 rfl rfl (Nat.le_of_ble_eq_true rfl) (t_X7_next (by omega) hc14) ?_
      refine x_aload_n dX5_test_38 rfl 0 rfl ?_
      refine x_iload_n dX5_test_39 rfl 1 rfl ?_
      obtain ⟨c27, H⟩ := ko_o H
      obtain ⟨v15, h16, hc17, H⟩ := bd_o H
      refine x_callVi (As := [.int x1]) (q := (RX5, TX5, 5)) dX5_test_40 mi_X5_both lk_X5_148 im_X5_both se_X5_both rfl c27 rfl rfl (Nat.le_of_ble_eq_true rfl) (sccU_X5_both (hF _ rfl) hc17) ?_
      refine x_if_ne (tgt := 48) dX5_test_43 (by decide) (fun c18 => ?_) (fun c18 => ?_)
      · replace H := ite_m H c18
        refine x_aload_n dX5_test_48 rfl 0 rfl ?_
        obtain ⟨c19, H⟩ := ko_o H
        obtain ⟨a20, c21, H⟩ := kr_o H
        refine x_getR fr_X5_30 dX5_test_49 c19 rfl c21 ?_
        refine x_bipush (v := 19) dX5_test_52 (by decide) ?_
        obtain ⟨c26, H⟩ := ko_o H
        obtain ⟨v22, h23, hc24, H⟩ := bd_o H
        refine x_callVv (As := [.int 19]) (q := (RX4, TX4, 10)) dX5_test_54 mi_X4_addOperation lk_X5_151 im_X4_addOperation se_X4_addOperation rfl c26 rfl rfl (Nat.le_of_ble_eq_true rfl) (t_X4_addOperation (by omega) hc24) ?_
        obtain ⟨v25, ev25, H⟩ := nm_o H
        refine x_iinc (v := v25) (lv' := [(2, .int v25), (0, .ref x0), (1, .int x1)]) dX5_test_57 2 rfl (by decide) ev25 rfl ?_
        refine x_goto (tgt := 12) dX5_test_60 (by decide) ?_
        refine Ex.sub [1, 2, 0] rfl ?_
        exact hk12 H
      · replace H := ite_p H c18
        refine x_iconst (v := 0) dX5_test_46 (by decide) ?_
        obtain ⟨rfl, rfl⟩ := so_1 H
        exact x_iret dX5_test_47 rfl (by decide)
def f_X5_test_12 (F : Nat → Nat → Int32 → aH → Option (Int32 × aH)) : Nat → Nat → Int32 → Int32 → aH → Option (Int32 × aH)
  | 0 => fun _ _ _ _ => none
  | n + 1 => b_X5_test_12 F (f_X5_test_12 F n)
set_option maxRecDepth 100000 in
set_option maxHeartbeats 4000000 in
theorem t_X5_test_12 {Γ : gS} {d : Nat} (hd : 8 ≤ d) {F : Nat → Nat → Int32 → aH → Option (Int32 × aH)} (hF : ∀ e, d = e + 1 → SCCP Γ F e) (n : Nat) : ∀ {x0 : Nat} {x1 : Int32} {x2 : Int32} {h : aH} {r : Int32} {h' : aH}, f_X5_test_12 F n x0 x1 x2 h = some (r, h') → Ex Γ gX5_test d 12 [(0, .ref x0), (1, .int x1), (2, .int x2)] [] h (some (.int r)) h' := by
  induction n with
  | zero => intro x0 x1 x2 h r h' H; cases H
  | succ n ih => intro x0 x1 x2 h r h' H; exact tb_X5_test_12 hd hF ih H
def f_X5_test (F : Nat → Nat → Int32 → aH → Option (Int32 × aH)) (x0 : Nat) (x1 : Int32) (h : aH) : Option (Int32 × aH) :=
  ko h x0 5 <|
  bd (F 1 x0 x1 h) fun v30 h31 =>
  if v30 = 0 then
    some (0, h31)
  else
    f_X5_test_12 F FU x0 x1 0 h31
set_option maxRecDepth 100000 in
set_option maxHeartbeats 4000000 in
theorem t_X5_test {Γ : gS} {d : Nat} (hd : 8 ≤ d) {F : Nat → Nat → Int32 → aH → Option (Int32 × aH)} (hF : ∀ e, d = e + 1 → SCCP Γ F e) {x0 : Nat} {x1 : Int32} {h : aH} {r : Int32} {h' : aH} (H : f_X5_test F x0 x1 h = some (r, h')) : Mx Γ gX5_test d [.ref x0, .int x1] h (some (.int r)) h' := by
  refine Mx.of (by decide +kernel) (Nat.le_of_ble_eq_true rfl) ?_
  unfold f_X5_test at H
  show Ex Γ gX5_test d 0 [(0, .ref x0), (1, .int x1)] [] h (some (.int r)) h'
  obtain ⟨d, rfl⟩ : ∃ e, d = e + 1 := ⟨d - 1, by omega⟩
  refine x_aload_n dX5_test_0 rfl 0 rfl ?_
  refine x_iload_n dX5_test_1 rfl 1 rfl ?_
  obtain ⟨c34, H⟩ := ko_o H
  obtain ⟨v30, h31, hc32, H⟩ := bd_o H
  refine x_callVi (As := [.int x1]) (q := (RX5, TX5, 5)) dX5_test_2 mi_X5_both lk_X5_148 im_X5_both se_X5_both rfl c34 rfl rfl (Nat.le_of_ble_eq_true rfl) (sccU_X5_both (hF _ rfl) hc32) ?_
  refine x_if_ne (tgt := 10) dX5_test_5 (by decide) (fun c33 => ?_) (fun c33 => ?_)
  · replace H := ite_m H c33
    refine x_iconst (v := 0) dX5_test_10 (by decide) ?_
    refine x_istore_n (lv' := [(2, .int 0), (0, .ref x0), (1, .int x1)]) dX5_test_11 rfl (by decide) rfl rfl ?_
    refine Ex.sub [1, 2, 0] rfl ?_
    exact t_X5_test_12 hd hF FU H
  · replace H := ite_p H c33
    refine x_iconst (v := 0) dX5_test_8 (by decide) ?_
    obtain ⟨rfl, rfl⟩ := so_1 H
    exact x_iret dX5_test_9 rfl (by decide)
def f_X5_both_63 (F : Nat → Nat → Int32 → aH → Option (Int32 × aH)) (h : aH) : Option (Int32 × aH) :=
  some (1, h)
set_option maxRecDepth 100000 in
set_option maxHeartbeats 4000000 in
theorem t_X5_both_63 {Γ : gS} {d : Nat} (hd : 8 ≤ d) {F : Nat → Nat → Int32 → aH → Option (Int32 × aH)} (hF : ∀ e, d = e + 1 → SCCP Γ F e) {h : aH} {r : Int32} {h' : aH} (H : f_X5_both_63 F h = some (r, h')) : Ex Γ gX5_both d 63 [] [] h (some (.int r)) h' := by
  unfold f_X5_both_63 at H
  obtain ⟨d, rfl⟩ : ∃ e, d = e + 1 := ⟨d - 1, by omega⟩
  refine x_iconst (v := 1) dX5_both_63 (by decide) ?_
  obtain ⟨rfl, rfl⟩ := so_1 H
  exact x_iret dX5_both_64 rfl (by decide)
def b_X5_both_12 (F : Nat → Nat → Int32 → aH → Option (Int32 × aH)) (k12 : Nat → Int32 → Int32 → aH → Option (Int32 × aH)) (x0 : Nat) (x1 : Int32) (x2 : Int32) (h : aH) : Option (Int32 × aH) :=
  if 1600 ≤ x2 then
    f_X5_both_63 F h
  else
    ko h x0 5 <|
    kr (hR h x0 2) fun a3 =>
    ko h a3 7 <|
    bd (f_X7_isWord a3 20 h) fun v5 h6 =>
    if v5 = 0 then
      f_X5_both_63 F h6
    else
      ko h6 x0 5 <|
      kr (hR h6 x0 2) fun a10 =>
      ko h6 a10 7 <|
      bd (f_X7_next a10 h6) fun _ h13 =>
      ko h13 x0 5 <|
      bd (F 2 x0 x1 h13) fun v15 h16 =>
      if v15 = 0 then
        some (0, h16)
      else
        ko h16 x0 5 <|
        kr (hR h16 x0 3) fun a20 =>
        ko h16 a20 4 <|
        bd (f_X4_addOperation a20 20 h16) fun _ h23 =>
        nm (x2 + 1) fun (v25 : Int32) =>
        k12 x0 x1 v25 h23
set_option maxRecDepth 100000 in
set_option maxHeartbeats 4000000 in
theorem tb_X5_both_12 {Γ : gS} {d : Nat} (hd : 8 ≤ d) {F : Nat → Nat → Int32 → aH → Option (Int32 × aH)} (hF : ∀ e, d = e + 1 → SCCP Γ F e) {k12 : Nat → Int32 → Int32 → aH → Option (Int32 × aH)} (hk12 : ∀ {x0 : Nat} {x1 : Int32} {x2 : Int32} {h : aH} {r : Int32} {h' : aH}, k12 x0 x1 x2 h = some (r, h') → Ex Γ gX5_both d 12 [(0, .ref x0), (1, .int x1), (2, .int x2)] [] h (some (.int r)) h') {x0 : Nat} {x1 : Int32} {x2 : Int32} {h : aH} {r : Int32} {h' : aH} (H : b_X5_both_12 F k12 x0 x1 x2 h = some (r, h')) : Ex Γ gX5_both d 12 [(0, .ref x0), (1, .int x1), (2, .int x2)] [] h (some (.int r)) h' := by
  unfold b_X5_both_12 at H
  obtain ⟨d, rfl⟩ : ∃ e, d = e + 1 := ⟨d - 1, by omega⟩
  refine x_iload_n dX5_both_12 rfl 2 rfl ?_
  refine x_sipush (v := 1600) dX5_both_13 (by decide) ?_
  refine x_icmp_ge (tgt := 63) dX5_both_16 (by decide) (fun c1 => ?_) (fun c1 => ?_)
  · replace H := ite_p H c1
    refine Ex.sub [] rfl ?_
    exact t_X5_both_63 hd hF H
  · replace H := ite_m H c1
    refine x_aload_n dX5_both_19 rfl 0 rfl ?_
    obtain ⟨c2, H⟩ := ko_o H
    obtain ⟨a3, c4, H⟩ := kr_o H
    refine x_getR fr_X5_23 dX5_both_20 c2 rfl c4 ?_
    refine x_bipush (v := 20) dX5_both_23 (by decide) ?_
    obtain ⟨c29, H⟩ := ko_o H
    obtain ⟨v5, h6, hc7, H⟩ := bd_o H
    refine x_callVi (As := [.int 20]) (q := (RX7, TX7, 6)) dX5_both_25 mi_X7_isWord lk_X5_138 im_X7_isWord se_X7_isWord rfl c29 rfl rfl (Nat.le_of_ble_eq_true rfl) (t_X7_isWord (by omega) hc7) ?_
    refine x_if_eq (tgt := 63) dX5_both_28 (by decide) (fun c8 => ?_) (fun c8 => ?_)
    · replace H := ite_p H c8
      refine Ex.sub [] rfl ?_
      exact t_X5_both_63 hd hF H
    · replace H := ite_m H c8
      refine x_aload_n dX5_both_31 rfl 0 rfl ?_
      obtain ⟨c9, H⟩ := ko_o H
      obtain ⟨a10, c11, H⟩ := kr_o H
      refine x_getR fr_X5_23 dX5_both_32 c9 rfl c11 ?_
      obtain ⟨c28, H⟩ := ko_o H
      obtain ⟨v12, h13, hc14, H⟩ := bd_o H
      refine x_callVv (As := []) (q := (RX7, TX7, 6)) dX5_both_35 mi_X7_next lk_X5_97 im_X7_next se_X7_next rfl c28 rfl rfl (Nat.le_of_ble_eq_true rfl) (t_X7_next (by omega) hc14) ?_
      refine x_aload_n dX5_both_38 rfl 0 rfl ?_
      refine x_iload_n dX5_both_39 rfl 1 rfl ?_
      obtain ⟨c27, H⟩ := ko_o H
      obtain ⟨v15, h16, hc17, H⟩ := bd_o H
      refine x_callVi (As := [.int x1]) (q := (RX5, TX5, 5)) dX5_both_40 mi_X5_fact lk_X5_154 im_X5_fact se_X5_fact rfl c27 rfl rfl (Nat.le_of_ble_eq_true rfl) (sccU_X5_fact (hF _ rfl) hc17) ?_
      refine x_if_ne (tgt := 48) dX5_both_43 (by decide) (fun c18 => ?_) (fun c18 => ?_)
      · replace H := ite_m H c18
        refine x_aload_n dX5_both_48 rfl 0 rfl ?_
        obtain ⟨c19, H⟩ := ko_o H
        obtain ⟨a20, c21, H⟩ := kr_o H
        refine x_getR fr_X5_30 dX5_both_49 c19 rfl c21 ?_
        refine x_bipush (v := 20) dX5_both_52 (by decide) ?_
        obtain ⟨c26, H⟩ := ko_o H
        obtain ⟨v22, h23, hc24, H⟩ := bd_o H
        refine x_callVv (As := [.int 20]) (q := (RX4, TX4, 10)) dX5_both_54 mi_X4_addOperation lk_X5_151 im_X4_addOperation se_X4_addOperation rfl c26 rfl rfl (Nat.le_of_ble_eq_true rfl) (t_X4_addOperation (by omega) hc24) ?_
        obtain ⟨v25, ev25, H⟩ := nm_o H
        refine x_iinc (v := v25) (lv' := [(2, .int v25), (0, .ref x0), (1, .int x1)]) dX5_both_57 2 rfl (by decide) ev25 rfl ?_
        refine x_goto (tgt := 12) dX5_both_60 (by decide) ?_
        refine Ex.sub [1, 2, 0] rfl ?_
        exact hk12 H
      · replace H := ite_p H c18
        refine x_iconst (v := 0) dX5_both_46 (by decide) ?_
        obtain ⟨rfl, rfl⟩ := so_1 H
        exact x_iret dX5_both_47 rfl (by decide)
def f_X5_both_12 (F : Nat → Nat → Int32 → aH → Option (Int32 × aH)) : Nat → Nat → Int32 → Int32 → aH → Option (Int32 × aH)
  | 0 => fun _ _ _ _ => none
  | n + 1 => b_X5_both_12 F (f_X5_both_12 F n)
set_option maxRecDepth 100000 in
set_option maxHeartbeats 4000000 in
theorem t_X5_both_12 {Γ : gS} {d : Nat} (hd : 8 ≤ d) {F : Nat → Nat → Int32 → aH → Option (Int32 × aH)} (hF : ∀ e, d = e + 1 → SCCP Γ F e) (n : Nat) : ∀ {x0 : Nat} {x1 : Int32} {x2 : Int32} {h : aH} {r : Int32} {h' : aH}, f_X5_both_12 F n x0 x1 x2 h = some (r, h') → Ex Γ gX5_both d 12 [(0, .ref x0), (1, .int x1), (2, .int x2)] [] h (some (.int r)) h' := by
  induction n with
  | zero => intro x0 x1 x2 h r h' H; cases H
  | succ n ih => intro x0 x1 x2 h r h' H; exact tb_X5_both_12 hd hF ih H
def f_X5_both (F : Nat → Nat → Int32 → aH → Option (Int32 × aH)) (x0 : Nat) (x1 : Int32) (h : aH) : Option (Int32 × aH) :=
  ko h x0 5 <|
  bd (F 2 x0 x1 h) fun v30 h31 =>
  if v30 = 0 then
    some (0, h31)
  else
    f_X5_both_12 F FU x0 x1 0 h31
set_option maxRecDepth 100000 in
set_option maxHeartbeats 4000000 in
theorem t_X5_both {Γ : gS} {d : Nat} (hd : 8 ≤ d) {F : Nat → Nat → Int32 → aH → Option (Int32 × aH)} (hF : ∀ e, d = e + 1 → SCCP Γ F e) {x0 : Nat} {x1 : Int32} {h : aH} {r : Int32} {h' : aH} (H : f_X5_both F x0 x1 h = some (r, h')) : Mx Γ gX5_both d [.ref x0, .int x1] h (some (.int r)) h' := by
  refine Mx.of (by decide +kernel) (Nat.le_of_ble_eq_true rfl) ?_
  unfold f_X5_both at H
  show Ex Γ gX5_both d 0 [(0, .ref x0), (1, .int x1)] [] h (some (.int r)) h'
  obtain ⟨d, rfl⟩ : ∃ e, d = e + 1 := ⟨d - 1, by omega⟩
  refine x_aload_n dX5_both_0 rfl 0 rfl ?_
  refine x_iload_n dX5_both_1 rfl 1 rfl ?_
  obtain ⟨c34, H⟩ := ko_o H
  obtain ⟨v30, h31, hc32, H⟩ := bd_o H
  refine x_callVi (As := [.int x1]) (q := (RX5, TX5, 5)) dX5_both_2 mi_X5_fact lk_X5_154 im_X5_fact se_X5_fact rfl c34 rfl rfl (Nat.le_of_ble_eq_true rfl) (sccU_X5_fact (hF _ rfl) hc32) ?_
  refine x_if_ne (tgt := 10) dX5_both_5 (by decide) (fun c33 => ?_) (fun c33 => ?_)
  · replace H := ite_m H c33
    refine x_iconst (v := 0) dX5_both_10 (by decide) ?_
    refine x_istore_n (lv' := [(2, .int 0), (0, .ref x0), (1, .int x1)]) dX5_both_11 rfl (by decide) rfl rfl ?_
    refine Ex.sub [1, 2, 0] rfl ?_
    exact t_X5_both_12 hd hF FU H
  · replace H := ite_p H c33
    refine x_iconst (v := 0) dX5_both_8 (by decide) ?_
    obtain ⟨rfl, rfl⟩ := so_1 H
    exact x_iret dX5_both_9 rfl (by decide)
def f_X5_fact_60 (F : Nat → Nat → Int32 → aH → Option (Int32 × aH)) (h : aH) : Option (Int32 × aH) :=
  some (0, h)
set_option maxRecDepth 100000 in
set_option maxHeartbeats 4000000 in
theorem t_X5_fact_60 {Γ : gS} {d : Nat} (hd : 9 ≤ d) {F : Nat → Nat → Int32 → aH → Option (Int32 × aH)} (hF : ∀ e, d = e + 1 → SCCP Γ F e) {h : aH} {r : Int32} {h' : aH} (H : f_X5_fact_60 F h = some (r, h')) : Ex Γ gX5_fact d 60 [] [] h (some (.int r)) h' := by
  unfold f_X5_fact_60 at H
  obtain ⟨d, rfl⟩ : ∃ e, d = e + 1 := ⟨d - 1, by omega⟩
  refine x_iconst (v := 0) dX5_fact_60 (by decide) ?_
  obtain ⟨rfl, rfl⟩ := so_1 H
  exact x_iret dX5_fact_61 rfl (by decide)
def f_X5_fact_117 (F : Nat → Nat → Int32 → aH → Option (Int32 × aH)) (s0 : Int32) (h : aH) : Option (Int32 × aH) :=
  chk (narrow .boolean (.int s0) = .int s0) <|
  some (s0, h)
set_option maxRecDepth 100000 in
set_option maxHeartbeats 4000000 in
theorem t_X5_fact_117 {Γ : gS} {d : Nat} (hd : 9 ≤ d) {F : Nat → Nat → Int32 → aH → Option (Int32 × aH)} (hF : ∀ e, d = e + 1 → SCCP Γ F e) {s0 : Int32} {h : aH} {r : Int32} {h' : aH} (H : f_X5_fact_117 F s0 h = some (r, h')) : Ex Γ gX5_fact d 117 [] [.int s0] h (some (.int r)) h' := by
  unfold f_X5_fact_117 at H
  obtain ⟨d, rfl⟩ : ∃ e, d = e + 1 := ⟨d - 1, by omega⟩
  obtain ⟨c1, H⟩ := chk_o H
  obtain ⟨rfl, rfl⟩ := so_1 H
  exact x_iret dX5_fact_117 rfl c1
def f_X5_fact_116 (F : Nat → Nat → Int32 → aH → Option (Int32 × aH)) (h : aH) : Option (Int32 × aH) :=
  f_X5_fact_117 F 0 h
set_option maxRecDepth 100000 in
set_option maxHeartbeats 4000000 in
theorem t_X5_fact_116 {Γ : gS} {d : Nat} (hd : 9 ≤ d) {F : Nat → Nat → Int32 → aH → Option (Int32 × aH)} (hF : ∀ e, d = e + 1 → SCCP Γ F e) {h : aH} {r : Int32} {h' : aH} (H : f_X5_fact_116 F h = some (r, h')) : Ex Γ gX5_fact d 116 [] [] h (some (.int r)) h' := by
  unfold f_X5_fact_116 at H
  obtain ⟨d, rfl⟩ : ∃ e, d = e + 1 := ⟨d - 1, by omega⟩
  refine x_iconst (v := 0) dX5_fact_116 (by decide) ?_
  exact t_X5_fact_117 hd hF H
def f_X5_fact_177 (F : Nat → Nat → Int32 → aH → Option (Int32 × aH)) (x0 : Nat) (x1 : Int32) (h : aH) : Option (Int32 × aH) :=
  ko h x0 5 <|
  kr (hR h x0 2) fun a3 =>
  ko h a3 7 <|
  nm (hI h a3 5) fun (v6 : Int32) =>
  bd (f_X7_next a3 h) fun _ h8 =>
  ko h8 x0 5 <|
  bd (F 3 x0 x1 h8) fun v10 h11 =>
  if v10 = 0 then
    some (0, h11)
  else
    ko h11 x0 5 <|
    kr (hR h11 x0 3) fun a15 =>
    ko h11 a15 4 <|
    bd (f_X4_addOperation a15 v6 h11) fun _ h18 =>
    some (1, h18)
set_option maxRecDepth 100000 in
set_option maxHeartbeats 4000000 in
theorem t_X5_fact_177 {Γ : gS} {d : Nat} (hd : 9 ≤ d) {F : Nat → Nat → Int32 → aH → Option (Int32 × aH)} (hF : ∀ e, d = e + 1 → SCCP Γ F e) {x0 : Nat} {x1 : Int32} {h : aH} {r : Int32} {h' : aH} (H : f_X5_fact_177 F x0 x1 h = some (r, h')) : Ex Γ gX5_fact d 177 [(0, .ref x0), (1, .int x1)] [] h (some (.int r)) h' := by
  unfold f_X5_fact_177 at H
  obtain ⟨d, rfl⟩ : ∃ e, d = e + 1 := ⟨d - 1, by omega⟩
  refine x_aload_n dX5_fact_177 rfl 0 rfl ?_
  obtain ⟨c2, H⟩ := ko_o H
  obtain ⟨a3, c4, H⟩ := kr_o H
  refine x_getR fr_X5_23 dX5_fact_178 c2 rfl c4 ?_
  obtain ⟨c5, H⟩ := ko_o H
  refine x_getI fr_X5_70 dX5_fact_181 c5 rfl ?_
  obtain ⟨v6, ev6, H⟩ := nm_o H
  refine x_istore_n (lv' := [(2, .int v6), (0, .ref x0), (1, .int x1)]) dX5_fact_184 rfl (by decide) ev6 rfl ?_
  refine x_aload_n dX5_fact_185 rfl 1 rfl ?_
  refine x_getR fr_X5_23 dX5_fact_186 c2 rfl c4 ?_
  obtain ⟨v7, h8, hc9, H⟩ := bd_o H
  refine x_callVv (As := []) (q := (RX7, TX7, 6)) dX5_fact_189 mi_X7_next lk_X5_97 im_X7_next se_X7_next rfl c5 rfl rfl (Nat.le_of_ble_eq_true rfl) (t_X7_next (by omega) hc9) ?_
  refine x_aload_n dX5_fact_192 rfl 1 rfl ?_
  refine x_iload_n dX5_fact_193 rfl 2 rfl ?_
  obtain ⟨c21, H⟩ := ko_o H
  obtain ⟨v10, h11, hc12, H⟩ := bd_o H
  refine x_callVi (As := [.int x1]) (q := (RX5, TX5, 5)) dX5_fact_194 mi_X5_sum lk_X5_79 im_X5_sum se_X5_sum rfl c21 rfl rfl (Nat.le_of_ble_eq_true rfl) (sccU_X5_sum (hF _ rfl) hc12) ?_
  refine x_if_ne (tgt := 202) dX5_fact_197 (by decide) (fun c13 => ?_) (fun c13 => ?_)
  · replace H := ite_m H c13
    refine x_aload_n dX5_fact_202 rfl 1 rfl ?_
    obtain ⟨c14, H⟩ := ko_o H
    obtain ⟨a15, c16, H⟩ := kr_o H
    refine x_getR fr_X5_30 dX5_fact_203 c14 rfl c16 ?_
    refine x_iload_n dX5_fact_206 rfl 0 rfl ?_
    obtain ⟨c20, H⟩ := ko_o H
    obtain ⟨v17, h18, hc19, H⟩ := bd_o H
    refine x_callVv (As := [.int v6]) (q := (RX4, TX4, 10)) dX5_fact_207 mi_X4_addOperation lk_X5_151 im_X4_addOperation se_X4_addOperation rfl c20 rfl rfl (Nat.le_of_ble_eq_true rfl) (t_X4_addOperation (by omega) hc19) ?_
    refine x_iconst (v := 1) dX5_fact_210 (by decide) ?_
    obtain ⟨rfl, rfl⟩ := so_1 H
    exact x_iret dX5_fact_211 rfl (by decide)
  · replace H := ite_p H c13
    refine x_iconst (v := 0) dX5_fact_200 (by decide) ?_
    obtain ⟨rfl, rfl⟩ := so_1 H
    exact x_iret dX5_fact_201 rfl (by decide)
def f_X5_fact (F : Nat → Nat → Int32 → aH → Option (Int32 × aH)) (x0 : Nat) (x1 : Int32) (h : aH) : Option (Int32 × aH) :=
  ko h x0 5 <|
  kr (hR h x0 2) fun a23 =>
  ko h a23 7 <|
  bd (f_X7_isWord a23 22 h) fun v25 h26 =>
  if v25 = 0 then
    ko h26 x0 5 <|
    kr (hR h26 x0 2) fun a30 =>
    ko h26 a30 7 <|
    bd (f_X7_isWord a30 21 h26) fun v32 h33 =>
    if v32 = 0 then
      ko h33 x0 5 <|
      kr (hR h33 x0 2) fun a37 =>
      ko h33 a37 7 <|
      bd (f_X7_isSign a37 91 h33) fun v39 h40 =>
      if v39 = 0 then
        ko h40 x0 5 <|
        bd (F 3 x0 x1 h40) fun v43 h44 =>
        if v43 = 0 then
          some (0, h44)
        else
          ko h44 x0 5 <|
          kr (hR h44 x0 2) fun a48 =>
          ko h44 a48 7 <|
          bd (f_X7_isSign a48 60 h44) fun v50 h51 =>
          if v50 = 0 then
            ko h51 x0 5 <|
            kr (hR h51 x0 2) fun a55 =>
            ko h51 a55 7 <|
            bd (f_X7_isSign a55 62 h51) fun v57 h58 =>
            if v57 = 0 then
              ko h58 x0 5 <|
              kr (hR h58 x0 2) fun a62 =>
              ko h58 a62 7 <|
              bd (f_X7_isSign a62 61 h58) fun v64 h65 =>
              if v64 = 0 then
                ko h65 x0 5 <|
                kr (hR h65 x0 2) fun a69 =>
                ko h65 a69 7 <|
                bd (f_X5_fail x0 1 (hI h65 a69 3) h65) fun v72 h73 =>
                chk (narrow .boolean (.int v72) = .int v72) <|
                some (v72, h73)
              else
                f_X5_fact_177 F x0 x1 h65
            else
              f_X5_fact_177 F x0 x1 h58
          else
            f_X5_fact_177 F x0 x1 h51
      else
        ko h40 x0 5 <|
        bd (f_X5_opening x0 x1 h40) fun v80 h81 =>
        if v80 = 0 then
          f_X5_fact_116 F h81
        else
          ko h81 x0 5 <|
          bd (F 0 x0 (x1 + 1) h81) fun v84 h85 =>
          if v84 = 0 then
            f_X5_fact_116 F h85
          else
            ko h85 x0 5 <|
            bd (f_X5_sign x0 93 h85) fun v88 h89 =>
            if v88 = 0 then
              f_X5_fact_116 F h89
            else
              f_X5_fact_117 F 1 h89
    else
      ko h33 x0 5 <|
      bd (f_X5_opening x0 x1 h33) fun v96 h97 =>
      if v96 = 0 then
        f_X5_fact_60 F h97
      else
        ko h97 x0 5 <|
        bd (F 2 x0 (x1 + 1) h97) fun v100 h101 =>
        if v100 = 0 then
          f_X5_fact_60 F h101
        else
          ko h101 x0 5 <|
          kr (hR h101 x0 3) fun a105 =>
          ko h101 a105 4 <|
          bd (f_X4_addOperation a105 21 h101) fun _ h108 =>
          some (1, h108)
  else
    ko h26 x0 5 <|
    kr (hR h26 x0 2) fun a115 =>
    ko h26 a115 7 <|
    bd (f_X7_next a115 h26) fun _ h118 =>
    ko h118 x0 5 <|
    kr (hR h118 x0 3) fun a121 =>
    ko h118 a121 4 <|
    bd (f_X4_addOperation a121 22 h118) fun _ h124 =>
    some (1, h124)
set_option maxRecDepth 100000 in
set_option maxHeartbeats 4000000 in
theorem t_X5_fact {Γ : gS} {d : Nat} (hd : 9 ≤ d) {F : Nat → Nat → Int32 → aH → Option (Int32 × aH)} (hF : ∀ e, d = e + 1 → SCCP Γ F e) {x0 : Nat} {x1 : Int32} {h : aH} {r : Int32} {h' : aH} (H : f_X5_fact F x0 x1 h = some (r, h')) : Mx Γ gX5_fact d [.ref x0, .int x1] h (some (.int r)) h' := by
  refine Mx.of (by decide +kernel) (Nat.le_of_ble_eq_true rfl) ?_
  unfold f_X5_fact at H
  show Ex Γ gX5_fact d 0 [(0, .ref x0), (1, .int x1)] [] h (some (.int r)) h'
  obtain ⟨d, rfl⟩ : ∃ e, d = e + 1 := ⟨d - 1, by omega⟩
  refine x_aload_n dX5_fact_0 rfl 0 rfl ?_
  obtain ⟨c22, H⟩ := ko_o H
  obtain ⟨a23, c24, H⟩ := kr_o H
  refine x_getR fr_X5_23 dX5_fact_1 c22 rfl c24 ?_
  refine x_bipush (v := 22) dX5_fact_4 (by decide) ?_
  obtain ⟨c128, H⟩ := ko_o H
  obtain ⟨v25, h26, hc27, H⟩ := bd_o H
  refine x_callVi (As := [.int 22]) (q := (RX7, TX7, 6)) dX5_fact_6 mi_X7_isWord lk_X5_138 im_X7_isWord se_X7_isWord rfl c128 rfl rfl (Nat.le_of_ble_eq_true rfl) (t_X7_isWord (by omega) hc27) ?_
  refine x_if_eq (tgt := 30) dX5_fact_9 (by decide) (fun c28 => ?_) (fun c28 => ?_)
  · replace H := ite_p H c28
    refine x_aload_n dX5_fact_30 rfl 0 rfl ?_
    obtain ⟨c29, H⟩ := ko_o H
    obtain ⟨a30, c31, H⟩ := kr_o H
    refine x_getR fr_X5_23 dX5_fact_31 c29 rfl c31 ?_
    refine x_bipush (v := 21) dX5_fact_34 (by decide) ?_
    obtain ⟨c113, H⟩ := ko_o H
    obtain ⟨v32, h33, hc34, H⟩ := bd_o H
    refine x_callVi (As := [.int 21]) (q := (RX7, TX7, 6)) dX5_fact_36 mi_X7_isWord lk_X5_138 im_X7_isWord se_X7_isWord rfl c113 rfl rfl (Nat.le_of_ble_eq_true rfl) (t_X7_isWord (by omega) hc34) ?_
    refine x_if_eq (tgt := 73) dX5_fact_39 (by decide) (fun c35 => ?_) (fun c35 => ?_)
    · replace H := ite_p H c35
      refine x_aload_n dX5_fact_73 rfl 0 rfl ?_
      obtain ⟨c36, H⟩ := ko_o H
      obtain ⟨a37, c38, H⟩ := kr_o H
      refine x_getR fr_X5_23 dX5_fact_74 c36 rfl c38 ?_
      refine x_bipush (v := 91) dX5_fact_77 (by decide) ?_
      obtain ⟨c95, H⟩ := ko_o H
      obtain ⟨v39, h40, hc41, H⟩ := bd_o H
      refine x_callVi (As := [.int 91]) (q := (RX7, TX7, 6)) dX5_fact_79 mi_X7_isSign lk_X5_141 im_X7_isSign se_X7_isSign rfl c95 rfl rfl (Nat.le_of_ble_eq_true rfl) (t_X7_isSign (by omega) hc41) ?_
      refine x_if_eq (tgt := 118) dX5_fact_82 (by decide) (fun c42 => ?_) (fun c42 => ?_)
      · replace H := ite_p H c42
        refine x_aload_n dX5_fact_118 rfl 0 rfl ?_
        refine x_iload_n dX5_fact_119 rfl 1 rfl ?_
        obtain ⟨c79, H⟩ := ko_o H
        obtain ⟨v43, h44, hc45, H⟩ := bd_o H
        refine x_callVi (As := [.int x1]) (q := (RX5, TX5, 5)) dX5_fact_120 mi_X5_sum lk_X5_79 im_X5_sum se_X5_sum rfl c79 rfl rfl (Nat.le_of_ble_eq_true rfl) (sccU_X5_sum (hF _ rfl) hc45) ?_
        refine x_if_ne (tgt := 128) dX5_fact_123 (by decide) (fun c46 => ?_) (fun c46 => ?_)
        · replace H := ite_m H c46
          refine x_aload_n dX5_fact_128 rfl 0 rfl ?_
          obtain ⟨c47, H⟩ := ko_o H
          obtain ⟨a48, c49, H⟩ := kr_o H
          refine x_getR fr_X5_23 dX5_fact_129 c47 rfl c49 ?_
          refine x_bipush (v := 60) dX5_fact_132 (by decide) ?_
          obtain ⟨c78, H⟩ := ko_o H
          obtain ⟨v50, h51, hc52, H⟩ := bd_o H
          refine x_callVi (As := [.int 60]) (q := (RX7, TX7, 6)) dX5_fact_134 mi_X7_isSign lk_X5_141 im_X7_isSign se_X7_isSign rfl c78 rfl rfl (Nat.le_of_ble_eq_true rfl) (t_X7_isSign (by omega) hc52) ?_
          refine x_if_ne (tgt := 177) dX5_fact_137 (by decide) (fun c53 => ?_) (fun c53 => ?_)
          · replace H := ite_m H c53
            exact t_X5_fact_177 hd hF H
          · replace H := ite_p H c53
            refine x_aload_n dX5_fact_140 rfl 0 rfl ?_
            obtain ⟨c54, H⟩ := ko_o H
            obtain ⟨a55, c56, H⟩ := kr_o H
            refine x_getR fr_X5_23 dX5_fact_141 c54 rfl c56 ?_
            refine x_bipush (v := 62) dX5_fact_144 (by decide) ?_
            obtain ⟨c77, H⟩ := ko_o H
            obtain ⟨v57, h58, hc59, H⟩ := bd_o H
            refine x_callVi (As := [.int 62]) (q := (RX7, TX7, 6)) dX5_fact_146 mi_X7_isSign lk_X5_141 im_X7_isSign se_X7_isSign rfl c77 rfl rfl (Nat.le_of_ble_eq_true rfl) (t_X7_isSign (by omega) hc59) ?_
            refine x_if_ne (tgt := 177) dX5_fact_149 (by decide) (fun c60 => ?_) (fun c60 => ?_)
            · replace H := ite_m H c60
              exact t_X5_fact_177 hd hF H
            · replace H := ite_p H c60
              refine x_aload_n dX5_fact_152 rfl 0 rfl ?_
              obtain ⟨c61, H⟩ := ko_o H
              obtain ⟨a62, c63, H⟩ := kr_o H
              refine x_getR fr_X5_23 dX5_fact_153 c61 rfl c63 ?_
              refine x_bipush (v := 61) dX5_fact_156 (by decide) ?_
              obtain ⟨c76, H⟩ := ko_o H
              obtain ⟨v64, h65, hc66, H⟩ := bd_o H
              refine x_callVi (As := [.int 61]) (q := (RX7, TX7, 6)) dX5_fact_158 mi_X7_isSign lk_X5_141 im_X7_isSign se_X7_isSign rfl c76 rfl rfl (Nat.le_of_ble_eq_true rfl) (t_X7_isSign (by omega) hc66) ?_
              refine x_if_ne (tgt := 177) dX5_fact_161 (by decide) (fun c67 => ?_) (fun c67 => ?_)
              · replace H := ite_m H c67
                exact t_X5_fact_177 hd hF H
              · replace H := ite_p H c67
                refine x_aload_n dX5_fact_164 rfl 0 rfl ?_
                refine x_iconst (v := 1) dX5_fact_165 (by decide) ?_
                refine x_aload_n dX5_fact_166 rfl 0 rfl ?_
                obtain ⟨c68, H⟩ := ko_o H
                obtain ⟨a69, c70, H⟩ := kr_o H
                refine x_getR fr_X5_23 dX5_fact_167 c68 rfl c70 ?_
                obtain ⟨c71, H⟩ := ko_o H
                refine x_getI fr_X5_60 dX5_fact_170 c71 rfl ?_
                obtain ⟨v72, h73, hc74, H⟩ := bd_o H
                refine x_callVi (As := [.int 1, .int (hI h65 a69 3)]) (q := (RX5, TX5, 5)) dX5_fact_173 mi_X5_fail lk_X5_63 im_X5_fail se_X5_fail rfl c68 rfl rfl (Nat.le_of_ble_eq_true rfl) (t_X5_fail (by omega) hc74) ?_
                obtain ⟨c75, H⟩ := chk_o H
                obtain ⟨rfl, rfl⟩ := so_1 H
                exact x_iret dX5_fact_176 rfl c75
        · replace H := ite_p H c46
          refine x_iconst (v := 0) dX5_fact_126 (by decide) ?_
          obtain ⟨rfl, rfl⟩ := so_1 H
          exact x_iret dX5_fact_127 rfl (by decide)
      · replace H := ite_m H c42
        refine x_aload_n dX5_fact_85 rfl 0 rfl ?_
        refine x_iload_n dX5_fact_86 rfl 1 rfl ?_
        obtain ⟨c94, H⟩ := ko_o H
        obtain ⟨v80, h81, hc82, H⟩ := bd_o H
        refine x_callVi (As := [.int x1]) (q := (RX5, TX5, 5)) dX5_fact_87 mi_X5_opening lk_X5_157 im_X5_opening se_X5_opening rfl c94 rfl rfl (Nat.le_of_ble_eq_true rfl) (t_X5_opening (by omega) hc82) ?_
        refine x_if_eq (tgt := 116) dX5_fact_90 (by decide) (fun c83 => ?_) (fun c83 => ?_)
        · replace H := ite_p H c83
          refine Ex.sub [] rfl ?_
          exact t_X5_fact_116 hd hF H
        · replace H := ite_m H c83
          refine x_aload_n dX5_fact_93 rfl 0 rfl ?_
          refine x_iload_n dX5_fact_94 rfl 1 rfl ?_
          refine x_iconst (v := 1) dX5_fact_95 (by decide) ?_
          refine x_iadd dX5_fact_96 ?_
          obtain ⟨c93, H⟩ := ko_o H
          obtain ⟨v84, h85, hc86, H⟩ := bd_o H
          refine x_callVi (As := [.int (x1 + 1)]) (q := (RX5, TX5, 5)) dX5_fact_97 mi_X5_test lk_X5_85 im_X5_test se_X5_test rfl c93 rfl rfl (Nat.le_of_ble_eq_true rfl) (sccU_X5_test (hF _ rfl) hc86) ?_
          refine x_if_eq (tgt := 116) dX5_fact_100 (by decide) (fun c87 => ?_) (fun c87 => ?_)
          · replace H := ite_p H c87
            refine Ex.sub [] rfl ?_
            exact t_X5_fact_116 hd hF H
          · replace H := ite_m H c87
            refine x_aload_n dX5_fact_103 rfl 0 rfl ?_
            refine x_bipush (v := 93) dX5_fact_104 (by decide) ?_
            obtain ⟨c92, H⟩ := ko_o H
            obtain ⟨v88, h89, hc90, H⟩ := bd_o H
            refine x_callVi (As := [.int 93]) (q := (RX5, TX5, 5)) dX5_fact_106 mi_X5_sign lk_X5_53 im_X5_sign se_X5_sign rfl c92 rfl rfl (Nat.le_of_ble_eq_true rfl) (t_X5_sign (by omega) hc90) ?_
            refine x_if_eq (tgt := 116) dX5_fact_109 (by decide) (fun c91 => ?_) (fun c91 => ?_)
            · replace H := ite_p H c91
              refine Ex.sub [] rfl ?_
              exact t_X5_fact_116 hd hF H
            · replace H := ite_m H c91
              refine x_iconst (v := 1) dX5_fact_112 (by decide) ?_
              refine x_goto (tgt := 117) dX5_fact_113 (by decide) ?_
              refine Ex.sub [] rfl ?_
              exact t_X5_fact_117 hd hF H
    · replace H := ite_m H c35
      refine x_aload_n dX5_fact_42 rfl 0 rfl ?_
      refine x_iload_n dX5_fact_43 rfl 1 rfl ?_
      obtain ⟨c112, H⟩ := ko_o H
      obtain ⟨v96, h97, hc98, H⟩ := bd_o H
      refine x_callVi (As := [.int x1]) (q := (RX5, TX5, 5)) dX5_fact_44 mi_X5_opening lk_X5_157 im_X5_opening se_X5_opening rfl c112 rfl rfl (Nat.le_of_ble_eq_true rfl) (t_X5_opening (by omega) hc98) ?_
      refine x_if_eq (tgt := 60) dX5_fact_47 (by decide) (fun c99 => ?_) (fun c99 => ?_)
      · replace H := ite_p H c99
        refine Ex.sub [] rfl ?_
        exact t_X5_fact_60 hd hF H
      · replace H := ite_m H c99
        refine x_aload_n dX5_fact_50 rfl 0 rfl ?_
        refine x_iload_n dX5_fact_51 rfl 1 rfl ?_
        refine x_iconst (v := 1) dX5_fact_52 (by decide) ?_
        refine x_iadd dX5_fact_53 ?_
        obtain ⟨c111, H⟩ := ko_o H
        obtain ⟨v100, h101, hc102, H⟩ := bd_o H
        refine x_callVi (As := [.int (x1 + 1)]) (q := (RX5, TX5, 5)) dX5_fact_54 mi_X5_fact lk_X5_154 im_X5_fact se_X5_fact rfl c111 rfl rfl (Nat.le_of_ble_eq_true rfl) (sccU_X5_fact (hF _ rfl) hc102) ?_
        refine x_if_ne (tgt := 62) dX5_fact_57 (by decide) (fun c103 => ?_) (fun c103 => ?_)
        · replace H := ite_m H c103
          refine x_aload_n dX5_fact_62 rfl 0 rfl ?_
          obtain ⟨c104, H⟩ := ko_o H
          obtain ⟨a105, c106, H⟩ := kr_o H
          refine x_getR fr_X5_30 dX5_fact_63 c104 rfl c106 ?_
          refine x_bipush (v := 21) dX5_fact_66 (by decide) ?_
          obtain ⟨c110, H⟩ := ko_o H
          obtain ⟨v107, h108, hc109, H⟩ := bd_o H
          refine x_callVv (As := [.int 21]) (q := (RX4, TX4, 10)) dX5_fact_68 mi_X4_addOperation lk_X5_151 im_X4_addOperation se_X4_addOperation rfl c110 rfl rfl (Nat.le_of_ble_eq_true rfl) (t_X4_addOperation (by omega) hc109) ?_
          refine x_iconst (v := 1) dX5_fact_71 (by decide) ?_
          obtain ⟨rfl, rfl⟩ := so_1 H
          exact x_iret dX5_fact_72 rfl (by decide)
        · replace H := ite_p H c103
          refine Ex.sub [] rfl ?_
          exact t_X5_fact_60 hd hF H
  · replace H := ite_m H c28
    refine x_aload_n dX5_fact_12 rfl 0 rfl ?_
    obtain ⟨c114, H⟩ := ko_o H
    obtain ⟨a115, c116, H⟩ := kr_o H
    refine x_getR fr_X5_23 dX5_fact_13 c114 rfl c116 ?_
    obtain ⟨c127, H⟩ := ko_o H
    obtain ⟨v117, h118, hc119, H⟩ := bd_o H
    refine x_callVv (As := []) (q := (RX7, TX7, 6)) dX5_fact_16 mi_X7_next lk_X5_97 im_X7_next se_X7_next rfl c127 rfl rfl (Nat.le_of_ble_eq_true rfl) (t_X7_next (by omega) hc119) ?_
    refine x_aload_n dX5_fact_19 rfl 0 rfl ?_
    obtain ⟨c120, H⟩ := ko_o H
    obtain ⟨a121, c122, H⟩ := kr_o H
    refine x_getR fr_X5_30 dX5_fact_20 c120 rfl c122 ?_
    refine x_bipush (v := 22) dX5_fact_23 (by decide) ?_
    obtain ⟨c126, H⟩ := ko_o H
    obtain ⟨v123, h124, hc125, H⟩ := bd_o H
    refine x_callVv (As := [.int 22]) (q := (RX4, TX4, 10)) dX5_fact_25 mi_X4_addOperation lk_X5_151 im_X4_addOperation se_X4_addOperation rfl c126 rfl rfl (Nat.le_of_ble_eq_true rfl) (t_X4_addOperation (by omega) hc125) ?_
    refine x_iconst (v := 1) dX5_fact_28 (by decide) ?_
    obtain ⟨rfl, rfl⟩ := so_1 H
    exact x_iret dX5_fact_29 rfl (by decide)
def f_X5_sum_43 (F : Nat → Nat → Int32 → aH → Option (Int32 × aH)) (k12 : Nat → Int32 → Int32 → aH → Option (Int32 × aH)) (x0 : Nat) (x1 : Int32) (x2 : Int32) (h : aH) : Option (Int32 × aH) :=
  ko h x0 5 <|
  kr (hR h x0 2) fun a2 =>
  ko h a2 7 <|
  nm (hI h a2 5) fun (v5 : Int32) =>
  bd (f_X7_next a2 h) fun _ h7 =>
  ko h7 x0 5 <|
  bd (F 4 x0 x1 h7) fun v9 h10 =>
  if v9 = 0 then
    some (0, h10)
  else
    ko h10 x0 5 <|
    kr (hR h10 x0 3) fun a14 =>
    ko h10 a14 4 <|
    bd (f_X4_addOperation a14 v5 h10) fun _ h17 =>
    nm (x2 + 1) fun (v19 : Int32) =>
    k12 x0 x1 v19 h17
set_option maxRecDepth 100000 in
set_option maxHeartbeats 4000000 in
theorem t_X5_sum_43 {Γ : gS} {d : Nat} (hd : 8 ≤ d) {F : Nat → Nat → Int32 → aH → Option (Int32 × aH)} (hF : ∀ e, d = e + 1 → SCCP Γ F e) {k12 : Nat → Int32 → Int32 → aH → Option (Int32 × aH)} (hk12 : ∀ {x0 : Nat} {x1 : Int32} {x2 : Int32} {h : aH} {r : Int32} {h' : aH}, k12 x0 x1 x2 h = some (r, h') → Ex Γ gX5_sum d 12 [(0, .ref x0), (1, .int x1), (2, .int x2)] [] h (some (.int r)) h') {x0 : Nat} {x1 : Int32} {x2 : Int32} {h : aH} {r : Int32} {h' : aH} (H : f_X5_sum_43 F k12 x0 x1 x2 h = some (r, h')) : Ex Γ gX5_sum d 43 [(0, .ref x0), (1, .int x1), (2, .int x2)] [] h (some (.int r)) h' := by
  unfold f_X5_sum_43 at H
  obtain ⟨d, rfl⟩ : ∃ e, d = e + 1 := ⟨d - 1, by omega⟩
  refine x_aload_n dX5_sum_43 rfl 0 rfl ?_
  obtain ⟨c1, H⟩ := ko_o H
  obtain ⟨a2, c3, H⟩ := kr_o H
  refine x_getR fr_X5_23 dX5_sum_44 c1 rfl c3 ?_
  obtain ⟨c4, H⟩ := ko_o H
  refine x_getI fr_X5_70 dX5_sum_47 c4 rfl ?_
  obtain ⟨v5, ev5, H⟩ := nm_o H
  refine x_istore_n (lv' := [(3, .int v5), (0, .ref x0), (1, .int x1), (2, .int x2)]) dX5_sum_50 rfl (by decide) ev5 rfl ?_
  refine x_aload_n dX5_sum_51 rfl 1 rfl ?_
  refine x_getR fr_X5_23 dX5_sum_52 c1 rfl c3 ?_
  obtain ⟨v6, h7, hc8, H⟩ := bd_o H
  refine x_callVv (As := []) (q := (RX7, TX7, 6)) dX5_sum_55 mi_X7_next lk_X5_97 im_X7_next se_X7_next rfl c4 rfl rfl (Nat.le_of_ble_eq_true rfl) (t_X7_next (by omega) hc8) ?_
  refine x_aload_n dX5_sum_58 rfl 1 rfl ?_
  refine x_iload_n dX5_sum_59 rfl 2 rfl ?_
  obtain ⟨c21, H⟩ := ko_o H
  obtain ⟨v9, h10, hc11, H⟩ := bd_o H
  refine x_callVi (As := [.int x1]) (q := (RX5, TX5, 5)) dX5_sum_60 mi_X5_product lk_X5_160 im_X5_product se_X5_product rfl c21 rfl rfl (Nat.le_of_ble_eq_true rfl) (sccU_X5_product (hF _ rfl) hc11) ?_
  refine x_if_ne (tgt := 68) dX5_sum_63 (by decide) (fun c12 => ?_) (fun c12 => ?_)
  · replace H := ite_m H c12
    refine x_aload_n dX5_sum_68 rfl 1 rfl ?_
    obtain ⟨c13, H⟩ := ko_o H
    obtain ⟨a14, c15, H⟩ := kr_o H
    refine x_getR fr_X5_30 dX5_sum_69 c13 rfl c15 ?_
    refine x_iload_n dX5_sum_72 rfl 0 rfl ?_
    obtain ⟨c20, H⟩ := ko_o H
    obtain ⟨v16, h17, hc18, H⟩ := bd_o H
    refine x_callVv (As := [.int v5]) (q := (RX4, TX4, 10)) dX5_sum_73 mi_X4_addOperation lk_X5_151 im_X4_addOperation se_X4_addOperation rfl c20 rfl rfl (Nat.le_of_ble_eq_true rfl) (t_X4_addOperation (by omega) hc18) ?_
    obtain ⟨v19, ev19, H⟩ := nm_o H
    refine x_iinc (v := v19) (lv' := [(2, .int v19), (3, .int v5), (0, .ref x0), (1, .int x1)]) dX5_sum_76 3 rfl (by decide) ev19 rfl ?_
    refine x_goto (tgt := 12) dX5_sum_79 (by decide) ?_
    refine Ex.sub [2, 3, 0] rfl ?_
    exact hk12 H
  · replace H := ite_p H c12
    refine x_iconst (v := 0) dX5_sum_66 (by decide) ?_
    obtain ⟨rfl, rfl⟩ := so_1 H
    exact x_iret dX5_sum_67 rfl (by decide)
def f_X5_sum_82 (F : Nat → Nat → Int32 → aH → Option (Int32 × aH)) (h : aH) : Option (Int32 × aH) :=
  some (1, h)
set_option maxRecDepth 100000 in
set_option maxHeartbeats 4000000 in
theorem t_X5_sum_82 {Γ : gS} {d : Nat} (hd : 8 ≤ d) {F : Nat → Nat → Int32 → aH → Option (Int32 × aH)} (hF : ∀ e, d = e + 1 → SCCP Γ F e) {h : aH} {r : Int32} {h' : aH} (H : f_X5_sum_82 F h = some (r, h')) : Ex Γ gX5_sum d 82 [] [] h (some (.int r)) h' := by
  unfold f_X5_sum_82 at H
  obtain ⟨d, rfl⟩ : ∃ e, d = e + 1 := ⟨d - 1, by omega⟩
  refine x_iconst (v := 1) dX5_sum_82 (by decide) ?_
  obtain ⟨rfl, rfl⟩ := so_1 H
  exact x_iret dX5_sum_83 rfl (by decide)
def b_X5_sum_12 (F : Nat → Nat → Int32 → aH → Option (Int32 × aH)) (k12 : Nat → Int32 → Int32 → aH → Option (Int32 × aH)) (x0 : Nat) (x1 : Int32) (x2 : Int32) (h : aH) : Option (Int32 × aH) :=
  if 1600 ≤ x2 then
    f_X5_sum_82 F h
  else
    ko h x0 5 <|
    kr (hR h x0 2) fun a24 =>
    ko h a24 7 <|
    bd (f_X7_isSign a24 43 h) fun v26 h27 =>
    if v26 = 0 then
      ko h27 x0 5 <|
      kr (hR h27 x0 2) fun a31 =>
      ko h27 a31 7 <|
      bd (f_X7_isSign a31 45 h27) fun v33 h34 =>
      if v33 = 0 then
        f_X5_sum_82 F h34
      else
        f_X5_sum_43 F k12 x0 x1 x2 h34
    else
      f_X5_sum_43 F k12 x0 x1 x2 h27
set_option maxRecDepth 100000 in
set_option maxHeartbeats 4000000 in
theorem tb_X5_sum_12 {Γ : gS} {d : Nat} (hd : 8 ≤ d) {F : Nat → Nat → Int32 → aH → Option (Int32 × aH)} (hF : ∀ e, d = e + 1 → SCCP Γ F e) {k12 : Nat → Int32 → Int32 → aH → Option (Int32 × aH)} (hk12 : ∀ {x0 : Nat} {x1 : Int32} {x2 : Int32} {h : aH} {r : Int32} {h' : aH}, k12 x0 x1 x2 h = some (r, h') → Ex Γ gX5_sum d 12 [(0, .ref x0), (1, .int x1), (2, .int x2)] [] h (some (.int r)) h') {x0 : Nat} {x1 : Int32} {x2 : Int32} {h : aH} {r : Int32} {h' : aH} (H : b_X5_sum_12 F k12 x0 x1 x2 h = some (r, h')) : Ex Γ gX5_sum d 12 [(0, .ref x0), (1, .int x1), (2, .int x2)] [] h (some (.int r)) h' := by
  unfold b_X5_sum_12 at H
  obtain ⟨d, rfl⟩ : ∃ e, d = e + 1 := ⟨d - 1, by omega⟩
  refine x_iload_n dX5_sum_12 rfl 2 rfl ?_
  refine x_sipush (v := 1600) dX5_sum_13 (by decide) ?_
  refine x_icmp_ge (tgt := 82) dX5_sum_16 (by decide) (fun c22 => ?_) (fun c22 => ?_)
  · replace H := ite_p H c22
    refine Ex.sub [] rfl ?_
    exact t_X5_sum_82 hd hF H
  · replace H := ite_m H c22
    refine x_aload_n dX5_sum_19 rfl 0 rfl ?_
    obtain ⟨c23, H⟩ := ko_o H
    obtain ⟨a24, c25, H⟩ := kr_o H
    refine x_getR fr_X5_23 dX5_sum_20 c23 rfl c25 ?_
    refine x_bipush (v := 43) dX5_sum_23 (by decide) ?_
    obtain ⟨c38, H⟩ := ko_o H
    obtain ⟨v26, h27, hc28, H⟩ := bd_o H
    refine x_callVi (As := [.int 43]) (q := (RX7, TX7, 6)) dX5_sum_25 mi_X7_isSign lk_X5_141 im_X7_isSign se_X7_isSign rfl c38 rfl rfl (Nat.le_of_ble_eq_true rfl) (t_X7_isSign (by omega) hc28) ?_
    refine x_if_ne (tgt := 43) dX5_sum_28 (by decide) (fun c29 => ?_) (fun c29 => ?_)
    · replace H := ite_m H c29
      exact t_X5_sum_43 hd hF hk12 H
    · replace H := ite_p H c29
      refine x_aload_n dX5_sum_31 rfl 0 rfl ?_
      obtain ⟨c30, H⟩ := ko_o H
      obtain ⟨a31, c32, H⟩ := kr_o H
      refine x_getR fr_X5_23 dX5_sum_32 c30 rfl c32 ?_
      refine x_bipush (v := 45) dX5_sum_35 (by decide) ?_
      obtain ⟨c37, H⟩ := ko_o H
      obtain ⟨v33, h34, hc35, H⟩ := bd_o H
      refine x_callVi (As := [.int 45]) (q := (RX7, TX7, 6)) dX5_sum_37 mi_X7_isSign lk_X5_141 im_X7_isSign se_X7_isSign rfl c37 rfl rfl (Nat.le_of_ble_eq_true rfl) (t_X7_isSign (by omega) hc35) ?_
      refine x_if_eq (tgt := 82) dX5_sum_40 (by decide) (fun c36 => ?_) (fun c36 => ?_)
      · replace H := ite_p H c36
        refine Ex.sub [] rfl ?_
        exact t_X5_sum_82 hd hF H
      · replace H := ite_m H c36
        exact t_X5_sum_43 hd hF hk12 H
def f_X5_sum_12 (F : Nat → Nat → Int32 → aH → Option (Int32 × aH)) : Nat → Nat → Int32 → Int32 → aH → Option (Int32 × aH)
  | 0 => fun _ _ _ _ => none
  | n + 1 => b_X5_sum_12 F (f_X5_sum_12 F n)
set_option maxRecDepth 100000 in
set_option maxHeartbeats 4000000 in
theorem t_X5_sum_12 {Γ : gS} {d : Nat} (hd : 8 ≤ d) {F : Nat → Nat → Int32 → aH → Option (Int32 × aH)} (hF : ∀ e, d = e + 1 → SCCP Γ F e) (n : Nat) : ∀ {x0 : Nat} {x1 : Int32} {x2 : Int32} {h : aH} {r : Int32} {h' : aH}, f_X5_sum_12 F n x0 x1 x2 h = some (r, h') → Ex Γ gX5_sum d 12 [(0, .ref x0), (1, .int x1), (2, .int x2)] [] h (some (.int r)) h' := by
  induction n with
  | zero => intro x0 x1 x2 h r h' H; cases H
  | succ n ih => intro x0 x1 x2 h r h' H; exact tb_X5_sum_12 hd hF ih H
def f_X5_sum (F : Nat → Nat → Int32 → aH → Option (Int32 × aH)) (x0 : Nat) (x1 : Int32) (h : aH) : Option (Int32 × aH) :=
  ko h x0 5 <|
  bd (F 4 x0 x1 h) fun v39 h40 =>
  if v39 = 0 then
    some (0, h40)
  else
    f_X5_sum_12 F FU x0 x1 0 h40
set_option maxRecDepth 100000 in
set_option maxHeartbeats 4000000 in
theorem t_X5_sum {Γ : gS} {d : Nat} (hd : 8 ≤ d) {F : Nat → Nat → Int32 → aH → Option (Int32 × aH)} (hF : ∀ e, d = e + 1 → SCCP Γ F e) {x0 : Nat} {x1 : Int32} {h : aH} {r : Int32} {h' : aH} (H : f_X5_sum F x0 x1 h = some (r, h')) : Mx Γ gX5_sum d [.ref x0, .int x1] h (some (.int r)) h' := by
  refine Mx.of (by decide +kernel) (Nat.le_of_ble_eq_true rfl) ?_
  unfold f_X5_sum at H
  show Ex Γ gX5_sum d 0 [(0, .ref x0), (1, .int x1)] [] h (some (.int r)) h'
  obtain ⟨d, rfl⟩ : ∃ e, d = e + 1 := ⟨d - 1, by omega⟩
  refine x_aload_n dX5_sum_0 rfl 0 rfl ?_
  refine x_iload_n dX5_sum_1 rfl 1 rfl ?_
  obtain ⟨c43, H⟩ := ko_o H
  obtain ⟨v39, h40, hc41, H⟩ := bd_o H
  refine x_callVi (As := [.int x1]) (q := (RX5, TX5, 5)) dX5_sum_2 mi_X5_product lk_X5_160 im_X5_product se_X5_product rfl c43 rfl rfl (Nat.le_of_ble_eq_true rfl) (sccU_X5_product (hF _ rfl) hc41) ?_
  refine x_if_ne (tgt := 10) dX5_sum_5 (by decide) (fun c42 => ?_) (fun c42 => ?_)
  · replace H := ite_m H c42
    refine x_iconst (v := 0) dX5_sum_10 (by decide) ?_
    refine x_istore_n (lv' := [(2, .int 0), (0, .ref x0), (1, .int x1)]) dX5_sum_11 rfl (by decide) rfl rfl ?_
    refine Ex.sub [1, 2, 0] rfl ?_
    exact t_X5_sum_12 hd hF FU H
  · replace H := ite_p H c42
    refine x_iconst (v := 0) dX5_sum_8 (by decide) ?_
    obtain ⟨rfl, rfl⟩ := so_1 H
    exact x_iret dX5_sum_9 rfl (by decide)
def f_X5_product_43 (F : Nat → Nat → Int32 → aH → Option (Int32 × aH)) (k12 : Nat → Int32 → Int32 → aH → Option (Int32 × aH)) (x0 : Nat) (x1 : Int32) (x2 : Int32) (h : aH) : Option (Int32 × aH) :=
  ko h x0 5 <|
  kr (hR h x0 2) fun a2 =>
  ko h a2 7 <|
  nm (hI h a2 5) fun (v5 : Int32) =>
  bd (f_X7_next a2 h) fun _ h7 =>
  ko h7 x0 5 <|
  bd (F 5 x0 x1 h7) fun v9 h10 =>
  if v9 = 0 then
    some (0, h10)
  else
    ko h10 x0 5 <|
    kr (hR h10 x0 3) fun a14 =>
    ko h10 a14 4 <|
    bd (f_X4_addOperation a14 v5 h10) fun _ h17 =>
    nm (x2 + 1) fun (v19 : Int32) =>
    k12 x0 x1 v19 h17
set_option maxRecDepth 100000 in
set_option maxHeartbeats 4000000 in
theorem t_X5_product_43 {Γ : gS} {d : Nat} (hd : 8 ≤ d) {F : Nat → Nat → Int32 → aH → Option (Int32 × aH)} (hF : ∀ e, d = e + 1 → SCCP Γ F e) {k12 : Nat → Int32 → Int32 → aH → Option (Int32 × aH)} (hk12 : ∀ {x0 : Nat} {x1 : Int32} {x2 : Int32} {h : aH} {r : Int32} {h' : aH}, k12 x0 x1 x2 h = some (r, h') → Ex Γ gX5_product d 12 [(0, .ref x0), (1, .int x1), (2, .int x2)] [] h (some (.int r)) h') {x0 : Nat} {x1 : Int32} {x2 : Int32} {h : aH} {r : Int32} {h' : aH} (H : f_X5_product_43 F k12 x0 x1 x2 h = some (r, h')) : Ex Γ gX5_product d 43 [(0, .ref x0), (1, .int x1), (2, .int x2)] [] h (some (.int r)) h' := by
  unfold f_X5_product_43 at H
  obtain ⟨d, rfl⟩ : ∃ e, d = e + 1 := ⟨d - 1, by omega⟩
  refine x_aload_n dX5_product_43 rfl 0 rfl ?_
  obtain ⟨c1, H⟩ := ko_o H
  obtain ⟨a2, c3, H⟩ := kr_o H
  refine x_getR fr_X5_23 dX5_product_44 c1 rfl c3 ?_
  obtain ⟨c4, H⟩ := ko_o H
  refine x_getI fr_X5_70 dX5_product_47 c4 rfl ?_
  obtain ⟨v5, ev5, H⟩ := nm_o H
  refine x_istore_n (lv' := [(3, .int v5), (0, .ref x0), (1, .int x1), (2, .int x2)]) dX5_product_50 rfl (by decide) ev5 rfl ?_
  refine x_aload_n dX5_product_51 rfl 1 rfl ?_
  refine x_getR fr_X5_23 dX5_product_52 c1 rfl c3 ?_
  obtain ⟨v6, h7, hc8, H⟩ := bd_o H
  refine x_callVv (As := []) (q := (RX7, TX7, 6)) dX5_product_55 mi_X7_next lk_X5_97 im_X7_next se_X7_next rfl c4 rfl rfl (Nat.le_of_ble_eq_true rfl) (t_X7_next (by omega) hc8) ?_
  refine x_aload_n dX5_product_58 rfl 1 rfl ?_
  refine x_iload_n dX5_product_59 rfl 2 rfl ?_
  obtain ⟨c21, H⟩ := ko_o H
  obtain ⟨v9, h10, hc11, H⟩ := bd_o H
  refine x_callVi (As := [.int x1]) (q := (RX5, TX5, 5)) dX5_product_60 mi_X5_part lk_X5_163 im_X5_part se_X5_part rfl c21 rfl rfl (Nat.le_of_ble_eq_true rfl) (sccU_X5_part (hF _ rfl) hc11) ?_
  refine x_if_ne (tgt := 68) dX5_product_63 (by decide) (fun c12 => ?_) (fun c12 => ?_)
  · replace H := ite_m H c12
    refine x_aload_n dX5_product_68 rfl 1 rfl ?_
    obtain ⟨c13, H⟩ := ko_o H
    obtain ⟨a14, c15, H⟩ := kr_o H
    refine x_getR fr_X5_30 dX5_product_69 c13 rfl c15 ?_
    refine x_iload_n dX5_product_72 rfl 0 rfl ?_
    obtain ⟨c20, H⟩ := ko_o H
    obtain ⟨v16, h17, hc18, H⟩ := bd_o H
    refine x_callVv (As := [.int v5]) (q := (RX4, TX4, 10)) dX5_product_73 mi_X4_addOperation lk_X5_151 im_X4_addOperation se_X4_addOperation rfl c20 rfl rfl (Nat.le_of_ble_eq_true rfl) (t_X4_addOperation (by omega) hc18) ?_
    obtain ⟨v19, ev19, H⟩ := nm_o H
    refine x_iinc (v := v19) (lv' := [(2, .int v19), (3, .int v5), (0, .ref x0), (1, .int x1)]) dX5_product_76 3 rfl (by decide) ev19 rfl ?_
    refine x_goto (tgt := 12) dX5_product_79 (by decide) ?_
    refine Ex.sub [2, 3, 0] rfl ?_
    exact hk12 H
  · replace H := ite_p H c12
    refine x_iconst (v := 0) dX5_product_66 (by decide) ?_
    obtain ⟨rfl, rfl⟩ := so_1 H
    exact x_iret dX5_product_67 rfl (by decide)
def f_X5_product_82 (F : Nat → Nat → Int32 → aH → Option (Int32 × aH)) (h : aH) : Option (Int32 × aH) :=
  some (1, h)
set_option maxRecDepth 100000 in
set_option maxHeartbeats 4000000 in
theorem t_X5_product_82 {Γ : gS} {d : Nat} (hd : 8 ≤ d) {F : Nat → Nat → Int32 → aH → Option (Int32 × aH)} (hF : ∀ e, d = e + 1 → SCCP Γ F e) {h : aH} {r : Int32} {h' : aH} (H : f_X5_product_82 F h = some (r, h')) : Ex Γ gX5_product d 82 [] [] h (some (.int r)) h' := by
  unfold f_X5_product_82 at H
  obtain ⟨d, rfl⟩ : ∃ e, d = e + 1 := ⟨d - 1, by omega⟩
  refine x_iconst (v := 1) dX5_product_82 (by decide) ?_
  obtain ⟨rfl, rfl⟩ := so_1 H
  exact x_iret dX5_product_83 rfl (by decide)
def b_X5_product_12 (F : Nat → Nat → Int32 → aH → Option (Int32 × aH)) (k12 : Nat → Int32 → Int32 → aH → Option (Int32 × aH)) (x0 : Nat) (x1 : Int32) (x2 : Int32) (h : aH) : Option (Int32 × aH) :=
  if 1600 ≤ x2 then
    f_X5_product_82 F h
  else
    ko h x0 5 <|
    kr (hR h x0 2) fun a24 =>
    ko h a24 7 <|
    bd (f_X7_isSign a24 42 h) fun v26 h27 =>
    if v26 = 0 then
      ko h27 x0 5 <|
      kr (hR h27 x0 2) fun a31 =>
      ko h27 a31 7 <|
      bd (f_X7_isSign a31 47 h27) fun v33 h34 =>
      if v33 = 0 then
        f_X5_product_82 F h34
      else
        f_X5_product_43 F k12 x0 x1 x2 h34
    else
      f_X5_product_43 F k12 x0 x1 x2 h27
set_option maxRecDepth 100000 in
set_option maxHeartbeats 4000000 in
theorem tb_X5_product_12 {Γ : gS} {d : Nat} (hd : 8 ≤ d) {F : Nat → Nat → Int32 → aH → Option (Int32 × aH)} (hF : ∀ e, d = e + 1 → SCCP Γ F e) {k12 : Nat → Int32 → Int32 → aH → Option (Int32 × aH)} (hk12 : ∀ {x0 : Nat} {x1 : Int32} {x2 : Int32} {h : aH} {r : Int32} {h' : aH}, k12 x0 x1 x2 h = some (r, h') → Ex Γ gX5_product d 12 [(0, .ref x0), (1, .int x1), (2, .int x2)] [] h (some (.int r)) h') {x0 : Nat} {x1 : Int32} {x2 : Int32} {h : aH} {r : Int32} {h' : aH} (H : b_X5_product_12 F k12 x0 x1 x2 h = some (r, h')) : Ex Γ gX5_product d 12 [(0, .ref x0), (1, .int x1), (2, .int x2)] [] h (some (.int r)) h' := by
  unfold b_X5_product_12 at H
  obtain ⟨d, rfl⟩ : ∃ e, d = e + 1 := ⟨d - 1, by omega⟩
  refine x_iload_n dX5_product_12 rfl 2 rfl ?_
  refine x_sipush (v := 1600) dX5_product_13 (by decide) ?_
  refine x_icmp_ge (tgt := 82) dX5_product_16 (by decide) (fun c22 => ?_) (fun c22 => ?_)
  · replace H := ite_p H c22
    refine Ex.sub [] rfl ?_
    exact t_X5_product_82 hd hF H
  · replace H := ite_m H c22
    refine x_aload_n dX5_product_19 rfl 0 rfl ?_
    obtain ⟨c23, H⟩ := ko_o H
    obtain ⟨a24, c25, H⟩ := kr_o H
    refine x_getR fr_X5_23 dX5_product_20 c23 rfl c25 ?_
    refine x_bipush (v := 42) dX5_product_23 (by decide) ?_
    obtain ⟨c38, H⟩ := ko_o H
    obtain ⟨v26, h27, hc28, H⟩ := bd_o H
    refine x_callVi (As := [.int 42]) (q := (RX7, TX7, 6)) dX5_product_25 mi_X7_isSign lk_X5_141 im_X7_isSign se_X7_isSign rfl c38 rfl rfl (Nat.le_of_ble_eq_true rfl) (t_X7_isSign (by omega) hc28) ?_
    refine x_if_ne (tgt := 43) dX5_product_28 (by decide) (fun c29 => ?_) (fun c29 => ?_)
    · replace H := ite_m H c29
      exact t_X5_product_43 hd hF hk12 H
    · replace H := ite_p H c29
      refine x_aload_n dX5_product_31 rfl 0 rfl ?_
      obtain ⟨c30, H⟩ := ko_o H
      obtain ⟨a31, c32, H⟩ := kr_o H
      refine x_getR fr_X5_23 dX5_product_32 c30 rfl c32 ?_
      refine x_bipush (v := 47) dX5_product_35 (by decide) ?_
      obtain ⟨c37, H⟩ := ko_o H
      obtain ⟨v33, h34, hc35, H⟩ := bd_o H
      refine x_callVi (As := [.int 47]) (q := (RX7, TX7, 6)) dX5_product_37 mi_X7_isSign lk_X5_141 im_X7_isSign se_X7_isSign rfl c37 rfl rfl (Nat.le_of_ble_eq_true rfl) (t_X7_isSign (by omega) hc35) ?_
      refine x_if_eq (tgt := 82) dX5_product_40 (by decide) (fun c36 => ?_) (fun c36 => ?_)
      · replace H := ite_p H c36
        refine Ex.sub [] rfl ?_
        exact t_X5_product_82 hd hF H
      · replace H := ite_m H c36
        exact t_X5_product_43 hd hF hk12 H
def f_X5_product_12 (F : Nat → Nat → Int32 → aH → Option (Int32 × aH)) : Nat → Nat → Int32 → Int32 → aH → Option (Int32 × aH)
  | 0 => fun _ _ _ _ => none
  | n + 1 => b_X5_product_12 F (f_X5_product_12 F n)
set_option maxRecDepth 100000 in
set_option maxHeartbeats 4000000 in
theorem t_X5_product_12 {Γ : gS} {d : Nat} (hd : 8 ≤ d) {F : Nat → Nat → Int32 → aH → Option (Int32 × aH)} (hF : ∀ e, d = e + 1 → SCCP Γ F e) (n : Nat) : ∀ {x0 : Nat} {x1 : Int32} {x2 : Int32} {h : aH} {r : Int32} {h' : aH}, f_X5_product_12 F n x0 x1 x2 h = some (r, h') → Ex Γ gX5_product d 12 [(0, .ref x0), (1, .int x1), (2, .int x2)] [] h (some (.int r)) h' := by
  induction n with
  | zero => intro x0 x1 x2 h r h' H; cases H
  | succ n ih => intro x0 x1 x2 h r h' H; exact tb_X5_product_12 hd hF ih H
def f_X5_product (F : Nat → Nat → Int32 → aH → Option (Int32 × aH)) (x0 : Nat) (x1 : Int32) (h : aH) : Option (Int32 × aH) :=
  ko h x0 5 <|
  bd (F 5 x0 x1 h) fun v39 h40 =>
  if v39 = 0 then
    some (0, h40)
  else
    f_X5_product_12 F FU x0 x1 0 h40
set_option maxRecDepth 100000 in
set_option maxHeartbeats 4000000 in
theorem t_X5_product {Γ : gS} {d : Nat} (hd : 8 ≤ d) {F : Nat → Nat → Int32 → aH → Option (Int32 × aH)} (hF : ∀ e, d = e + 1 → SCCP Γ F e) {x0 : Nat} {x1 : Int32} {h : aH} {r : Int32} {h' : aH} (H : f_X5_product F x0 x1 h = some (r, h')) : Mx Γ gX5_product d [.ref x0, .int x1] h (some (.int r)) h' := by
  refine Mx.of (by decide +kernel) (Nat.le_of_ble_eq_true rfl) ?_
  unfold f_X5_product at H
  show Ex Γ gX5_product d 0 [(0, .ref x0), (1, .int x1)] [] h (some (.int r)) h'
  obtain ⟨d, rfl⟩ : ∃ e, d = e + 1 := ⟨d - 1, by omega⟩
  refine x_aload_n dX5_product_0 rfl 0 rfl ?_
  refine x_iload_n dX5_product_1 rfl 1 rfl ?_
  obtain ⟨c43, H⟩ := ko_o H
  obtain ⟨v39, h40, hc41, H⟩ := bd_o H
  refine x_callVi (As := [.int x1]) (q := (RX5, TX5, 5)) dX5_product_2 mi_X5_part lk_X5_163 im_X5_part se_X5_part rfl c43 rfl rfl (Nat.le_of_ble_eq_true rfl) (sccU_X5_part (hF _ rfl) hc41) ?_
  refine x_if_ne (tgt := 10) dX5_product_5 (by decide) (fun c42 => ?_) (fun c42 => ?_)
  · replace H := ite_m H c42
    refine x_iconst (v := 0) dX5_product_10 (by decide) ?_
    refine x_istore_n (lv' := [(2, .int 0), (0, .ref x0), (1, .int x1)]) dX5_product_11 rfl (by decide) rfl rfl ?_
    refine Ex.sub [1, 2, 0] rfl ?_
    exact t_X5_product_12 hd hF FU H
  · replace H := ite_p H c42
    refine x_iconst (v := 0) dX5_product_8 (by decide) ?_
    obtain ⟨rfl, rfl⟩ := so_1 H
    exact x_iret dX5_product_9 rfl (by decide)
def f_X5_part_91 (F : Nat → Nat → Int32 → aH → Option (Int32 × aH)) (s0 : Int32) (h : aH) : Option (Int32 × aH) :=
  chk (narrow .boolean (.int s0) = .int s0) <|
  some (s0, h)
set_option maxRecDepth 100000 in
set_option maxHeartbeats 4000000 in
theorem t_X5_part_91 {Γ : gS} {d : Nat} (hd : 9 ≤ d) {F : Nat → Nat → Int32 → aH → Option (Int32 × aH)} (hF : ∀ e, d = e + 1 → SCCP Γ F e) {s0 : Int32} {h : aH} {r : Int32} {h' : aH} (H : f_X5_part_91 F s0 h = some (r, h')) : Ex Γ gX5_part d 91 [] [.int s0] h (some (.int r)) h' := by
  unfold f_X5_part_91 at H
  obtain ⟨d, rfl⟩ : ∃ e, d = e + 1 := ⟨d - 1, by omega⟩
  obtain ⟨c1, H⟩ := chk_o H
  obtain ⟨rfl, rfl⟩ := so_1 H
  exact x_iret dX5_part_91 rfl c1
def f_X5_part_90 (F : Nat → Nat → Int32 → aH → Option (Int32 × aH)) (h : aH) : Option (Int32 × aH) :=
  f_X5_part_91 F 0 h
set_option maxRecDepth 100000 in
set_option maxHeartbeats 4000000 in
theorem t_X5_part_90 {Γ : gS} {d : Nat} (hd : 9 ≤ d) {F : Nat → Nat → Int32 → aH → Option (Int32 × aH)} (hF : ∀ e, d = e + 1 → SCCP Γ F e) {h : aH} {r : Int32} {h' : aH} (H : f_X5_part_90 F h = some (r, h')) : Ex Γ gX5_part d 90 [] [] h (some (.int r)) h' := by
  unfold f_X5_part_90 at H
  obtain ⟨d, rfl⟩ : ∃ e, d = e + 1 := ⟨d - 1, by omega⟩
  refine x_iconst (v := 0) dX5_part_90 (by decide) ?_
  exact t_X5_part_91 hd hF H
def f_X5_part_116 (F : Nat → Nat → Int32 → aH → Option (Int32 × aH)) (x0 : Nat) (x1 : Int32) (h : aH) : Option (Int32 × aH) :=
  ko h x0 5 <|
  bd (F 6 x0 x1 h) fun v2 h3 =>
  chk (narrow .boolean (.int v2) = .int v2) <|
  some (v2, h3)
set_option maxRecDepth 100000 in
set_option maxHeartbeats 4000000 in
theorem t_X5_part_116 {Γ : gS} {d : Nat} (hd : 9 ≤ d) {F : Nat → Nat → Int32 → aH → Option (Int32 × aH)} (hF : ∀ e, d = e + 1 → SCCP Γ F e) {x0 : Nat} {x1 : Int32} {h : aH} {r : Int32} {h' : aH} (H : f_X5_part_116 F x0 x1 h = some (r, h')) : Ex Γ gX5_part d 116 [(0, .ref x0), (1, .int x1)] [] h (some (.int r)) h' := by
  unfold f_X5_part_116 at H
  obtain ⟨d, rfl⟩ : ∃ e, d = e + 1 := ⟨d - 1, by omega⟩
  refine x_aload_n dX5_part_116 rfl 0 rfl ?_
  refine x_iload_n dX5_part_117 rfl 1 rfl ?_
  obtain ⟨c6, H⟩ := ko_o H
  obtain ⟨v2, h3, hc4, H⟩ := bd_o H
  refine x_callVi (As := [.int x1]) (q := (RX5, TX5, 5)) dX5_part_118 mi_X5_pair lk_X5_169 im_X5_pair se_X5_pair rfl c6 rfl rfl (Nat.le_of_ble_eq_true rfl) (sccU_X5_pair (hF _ rfl) hc4) ?_
  obtain ⟨c5, H⟩ := chk_o H
  obtain ⟨rfl, rfl⟩ := so_1 H
  exact x_iret dX5_part_121 rfl c5
def f_X5_part (F : Nat → Nat → Int32 → aH → Option (Int32 × aH)) (x0 : Nat) (x1 : Int32) (h : aH) : Option (Int32 × aH) :=
  ko h x0 5 <|
  kr (hR h x0 2) fun a8 =>
  ko h a8 7 <|
  if (hI h a8 2) = 2 then
    bd (f_X5_number x0 0 9999 h) fun v52 h53 =>
    if v52 = 0 then
      some (0, h53)
    else
      ko h53 x0 5 <|
      kr (hR h53 x0 3) fun a57 =>
      kr (hR h53 x0 2) fun a59 =>
      ko h53 a59 7 <|
      ko h53 a57 4 <|
      bd (f_X4_addNumber a57 (hI h53 a59 5) h53) fun _ h63 =>
      ko h63 x0 5 <|
      kr (hR h63 x0 2) fun a66 =>
      ko h63 a66 7 <|
      bd (f_X7_next a66 h63) fun _ h69 =>
      some (1, h69)
  else
    bd (f_X7_isSign a8 40 h) fun v12 h13 =>
    if v12 = 0 then
      ko h13 x0 5 <|
      kr (hR h13 x0 2) fun a17 =>
      ko h13 a17 7 <|
      bd (f_X7_isWord a17 23 h13) fun v19 h20 =>
      if v19 = 0 then
        ko h20 x0 5 <|
        kr (hR h20 x0 2) fun a24 =>
        ko h20 a24 7 <|
        bd (f_X7_isWord a24 24 h20) fun v26 h27 =>
        if v26 = 0 then
          ko h27 x0 5 <|
          bd (F 7 x0 x1 h27) fun v30 h31 =>
          chk (narrow .boolean (.int v30) = .int v30) <|
          some (v30, h31)
        else
          f_X5_part_116 F x0 x1 h27
      else
        f_X5_part_116 F x0 x1 h20
    else
      ko h13 x0 5 <|
      bd (f_X5_opening x0 x1 h13) fun v37 h38 =>
      if v37 = 0 then
        f_X5_part_90 F h38
      else
        ko h38 x0 5 <|
        bd (F 3 x0 (x1 + 1) h38) fun v41 h42 =>
        if v41 = 0 then
          f_X5_part_90 F h42
        else
          ko h42 x0 5 <|
          bd (f_X5_sign x0 41 h42) fun v45 h46 =>
          if v45 = 0 then
            f_X5_part_90 F h46
          else
            f_X5_part_91 F 1 h46
set_option maxRecDepth 100000 in
set_option maxHeartbeats 4000000 in
theorem t_X5_part {Γ : gS} {d : Nat} (hd : 9 ≤ d) {F : Nat → Nat → Int32 → aH → Option (Int32 × aH)} (hF : ∀ e, d = e + 1 → SCCP Γ F e) {x0 : Nat} {x1 : Int32} {h : aH} {r : Int32} {h' : aH} (H : f_X5_part F x0 x1 h = some (r, h')) : Mx Γ gX5_part d [.ref x0, .int x1] h (some (.int r)) h' := by
  refine Mx.of (by decide +kernel) (Nat.le_of_ble_eq_true rfl) ?_
  unfold f_X5_part at H
  show Ex Γ gX5_part d 0 [(0, .ref x0), (1, .int x1)] [] h (some (.int r)) h'
  obtain ⟨d, rfl⟩ : ∃ e, d = e + 1 := ⟨d - 1, by omega⟩
  refine x_aload_n dX5_part_0 rfl 0 rfl ?_
  obtain ⟨c7, H⟩ := ko_o H
  obtain ⟨a8, c9, H⟩ := kr_o H
  refine x_getR fr_X5_23 dX5_part_1 c7 rfl c9 ?_
  obtain ⟨c10, H⟩ := ko_o H
  refine x_getI fr_X5_46 dX5_part_4 c10 rfl ?_
  refine x_iconst (v := 2) dX5_part_7 (by decide) ?_
  refine x_icmp_ne (tgt := 47) dX5_part_8 (by decide) (fun c11 => ?_) (fun c11 => ?_)
  · replace H := ite_m H c11
    refine x_aload_n dX5_part_47 rfl 0 rfl ?_
    refine x_getR fr_X5_23 dX5_part_48 c7 rfl c9 ?_
    refine x_bipush (v := 40) dX5_part_51 (by decide) ?_
    obtain ⟨v12, h13, hc14, H⟩ := bd_o H
    refine x_callVi (As := [.int 40]) (q := (RX7, TX7, 6)) dX5_part_53 mi_X7_isSign lk_X5_141 im_X7_isSign se_X7_isSign rfl c10 rfl rfl (Nat.le_of_ble_eq_true rfl) (t_X7_isSign (by omega) hc14) ?_
    refine x_if_eq (tgt := 92) dX5_part_56 (by decide) (fun c15 => ?_) (fun c15 => ?_)
    · replace H := ite_p H c15
      refine x_aload_n dX5_part_92 rfl 0 rfl ?_
      obtain ⟨c16, H⟩ := ko_o H
      obtain ⟨a17, c18, H⟩ := kr_o H
      refine x_getR fr_X5_23 dX5_part_93 c16 rfl c18 ?_
      refine x_bipush (v := 23) dX5_part_96 (by decide) ?_
      obtain ⟨c36, H⟩ := ko_o H
      obtain ⟨v19, h20, hc21, H⟩ := bd_o H
      refine x_callVi (As := [.int 23]) (q := (RX7, TX7, 6)) dX5_part_98 mi_X7_isWord lk_X5_138 im_X7_isWord se_X7_isWord rfl c36 rfl rfl (Nat.le_of_ble_eq_true rfl) (t_X7_isWord (by omega) hc21) ?_
      refine x_if_ne (tgt := 116) dX5_part_101 (by decide) (fun c22 => ?_) (fun c22 => ?_)
      · replace H := ite_m H c22
        exact t_X5_part_116 hd hF H
      · replace H := ite_p H c22
        refine x_aload_n dX5_part_104 rfl 0 rfl ?_
        obtain ⟨c23, H⟩ := ko_o H
        obtain ⟨a24, c25, H⟩ := kr_o H
        refine x_getR fr_X5_23 dX5_part_105 c23 rfl c25 ?_
        refine x_bipush (v := 24) dX5_part_108 (by decide) ?_
        obtain ⟨c35, H⟩ := ko_o H
        obtain ⟨v26, h27, hc28, H⟩ := bd_o H
        refine x_callVi (As := [.int 24]) (q := (RX7, TX7, 6)) dX5_part_110 mi_X7_isWord lk_X5_138 im_X7_isWord se_X7_isWord rfl c35 rfl rfl (Nat.le_of_ble_eq_true rfl) (t_X7_isWord (by omega) hc28) ?_
        refine x_if_eq (tgt := 122) dX5_part_113 (by decide) (fun c29 => ?_) (fun c29 => ?_)
        · replace H := ite_p H c29
          refine x_aload_n dX5_part_122 rfl 0 rfl ?_
          refine x_iload_n dX5_part_123 rfl 1 rfl ?_
          obtain ⟨c34, H⟩ := ko_o H
          obtain ⟨v30, h31, hc32, H⟩ := bd_o H
          refine x_callVi (As := [.int x1]) (q := (RX5, TX5, 5)) dX5_part_124 mi_X5_wordPart lk_X5_172 im_X5_wordPart se_X5_wordPart rfl c34 rfl rfl (Nat.le_of_ble_eq_true rfl) (sccU_X5_wordPart (hF _ rfl) hc32) ?_
          obtain ⟨c33, H⟩ := chk_o H
          obtain ⟨rfl, rfl⟩ := so_1 H
          exact x_iret dX5_part_127 rfl c33
        · replace H := ite_m H c29
          exact t_X5_part_116 hd hF H
    · replace H := ite_m H c15
      refine x_aload_n dX5_part_59 rfl 0 rfl ?_
      refine x_iload_n dX5_part_60 rfl 1 rfl ?_
      obtain ⟨c51, H⟩ := ko_o H
      obtain ⟨v37, h38, hc39, H⟩ := bd_o H
      refine x_callVi (As := [.int x1]) (q := (RX5, TX5, 5)) dX5_part_61 mi_X5_opening lk_X5_157 im_X5_opening se_X5_opening rfl c51 rfl rfl (Nat.le_of_ble_eq_true rfl) (t_X5_opening (by omega) hc39) ?_
      refine x_if_eq (tgt := 90) dX5_part_64 (by decide) (fun c40 => ?_) (fun c40 => ?_)
      · replace H := ite_p H c40
        refine Ex.sub [] rfl ?_
        exact t_X5_part_90 hd hF H
      · replace H := ite_m H c40
        refine x_aload_n dX5_part_67 rfl 0 rfl ?_
        refine x_iload_n dX5_part_68 rfl 1 rfl ?_
        refine x_iconst (v := 1) dX5_part_69 (by decide) ?_
        refine x_iadd dX5_part_70 ?_
        obtain ⟨c50, H⟩ := ko_o H
        obtain ⟨v41, h42, hc43, H⟩ := bd_o H
        refine x_callVi (As := [.int (x1 + 1)]) (q := (RX5, TX5, 5)) dX5_part_71 mi_X5_sum lk_X5_79 im_X5_sum se_X5_sum rfl c50 rfl rfl (Nat.le_of_ble_eq_true rfl) (sccU_X5_sum (hF _ rfl) hc43) ?_
        refine x_if_eq (tgt := 90) dX5_part_74 (by decide) (fun c44 => ?_) (fun c44 => ?_)
        · replace H := ite_p H c44
          refine Ex.sub [] rfl ?_
          exact t_X5_part_90 hd hF H
        · replace H := ite_m H c44
          refine x_aload_n dX5_part_77 rfl 0 rfl ?_
          refine x_bipush (v := 41) dX5_part_78 (by decide) ?_
          obtain ⟨c49, H⟩ := ko_o H
          obtain ⟨v45, h46, hc47, H⟩ := bd_o H
          refine x_callVi (As := [.int 41]) (q := (RX5, TX5, 5)) dX5_part_80 mi_X5_sign lk_X5_53 im_X5_sign se_X5_sign rfl c49 rfl rfl (Nat.le_of_ble_eq_true rfl) (t_X5_sign (by omega) hc47) ?_
          refine x_if_eq (tgt := 90) dX5_part_83 (by decide) (fun c48 => ?_) (fun c48 => ?_)
          · replace H := ite_p H c48
            refine Ex.sub [] rfl ?_
            exact t_X5_part_90 hd hF H
          · replace H := ite_m H c48
            refine x_iconst (v := 1) dX5_part_86 (by decide) ?_
            refine x_goto (tgt := 91) dX5_part_87 (by decide) ?_
            refine Ex.sub [] rfl ?_
            exact t_X5_part_91 hd hF H
  · replace H := ite_p H c11
    refine x_aload_n dX5_part_11 rfl 0 rfl ?_
    refine x_iconst (v := 0) dX5_part_12 (by decide) ?_
    refine x_sipush (v := 9999) dX5_part_13 (by decide) ?_
    obtain ⟨v52, h53, hc54, H⟩ := bd_o H
    refine x_callVi (As := [.int 0, .int 9999]) (q := (RX5, TX5, 5)) dX5_part_16 mi_X5_number lk_X5_91 im_X5_number se_X5_number rfl c7 rfl rfl (Nat.le_of_ble_eq_true rfl) (t_X5_number (by omega) hc54) ?_
    refine x_if_ne (tgt := 24) dX5_part_19 (by decide) (fun c55 => ?_) (fun c55 => ?_)
    · replace H := ite_m H c55
      refine x_aload_n dX5_part_24 rfl 0 rfl ?_
      obtain ⟨c56, H⟩ := ko_o H
      obtain ⟨a57, c58, H⟩ := kr_o H
      refine x_getR fr_X5_30 dX5_part_25 c56 rfl c58 ?_
      refine x_aload_n dX5_part_28 rfl 0 rfl ?_
      obtain ⟨a59, c60, H⟩ := kr_o H
      refine x_getR fr_X5_23 dX5_part_29 c56 rfl c60 ?_
      obtain ⟨c61, H⟩ := ko_o H
      refine x_getI fr_X5_70 dX5_part_32 c61 rfl ?_
      obtain ⟨c72, H⟩ := ko_o H
      obtain ⟨v62, h63, hc64, H⟩ := bd_o H
      refine x_callVv (As := [.int (hI h53 a59 5)]) (q := (RX4, TX4, 10)) dX5_part_35 mi_X4_addNumber lk_X5_166 im_X4_addNumber se_X4_addNumber rfl c72 rfl rfl (Nat.le_of_ble_eq_true rfl) (t_X4_addNumber (by omega) hc64) ?_
      refine x_aload_n dX5_part_38 rfl 0 rfl ?_
      obtain ⟨c65, H⟩ := ko_o H
      obtain ⟨a66, c67, H⟩ := kr_o H
      refine x_getR fr_X5_23 dX5_part_39 c65 rfl c67 ?_
      obtain ⟨c71, H⟩ := ko_o H
      obtain ⟨v68, h69, hc70, H⟩ := bd_o H
      refine x_callVv (As := []) (q := (RX7, TX7, 6)) dX5_part_42 mi_X7_next lk_X5_97 im_X7_next se_X7_next rfl c71 rfl rfl (Nat.le_of_ble_eq_true rfl) (t_X7_next (by omega) hc70) ?_
      refine x_iconst (v := 1) dX5_part_45 (by decide) ?_
      obtain ⟨rfl, rfl⟩ := so_1 H
      exact x_iret dX5_part_46 rfl (by decide)
    · replace H := ite_p H c55
      refine x_iconst (v := 0) dX5_part_22 (by decide) ?_
      obtain ⟨rfl, rfl⟩ := so_1 H
      exact x_iret dX5_part_23 rfl (by decide)
def f_X5_pair_86 (F : Nat → Nat → Int32 → aH → Option (Int32 × aH)) (h : aH) : Option (Int32 × aH) :=
  some (0, h)
set_option maxRecDepth 100000 in
set_option maxHeartbeats 4000000 in
theorem t_X5_pair_86 {Γ : gS} {d : Nat} (hd : 9 ≤ d) {F : Nat → Nat → Int32 → aH → Option (Int32 × aH)} (hF : ∀ e, d = e + 1 → SCCP Γ F e) {h : aH} {r : Int32} {h' : aH} (H : f_X5_pair_86 F h = some (r, h')) : Ex Γ gX5_pair d 86 [] [] h (some (.int r)) h' := by
  unfold f_X5_pair_86 at H
  obtain ⟨d, rfl⟩ : ∃ e, d = e + 1 := ⟨d - 1, by omega⟩
  refine x_iconst (v := 0) dX5_pair_86 (by decide) ?_
  obtain ⟨rfl, rfl⟩ := so_1 H
  exact x_iret dX5_pair_87 rfl (by decide)
def f_X5_pair (F : Nat → Nat → Int32 → aH → Option (Int32 × aH)) (x0 : Nat) (x1 : Int32) (h : aH) : Option (Int32 × aH) :=
  ko h x0 5 <|
  kr (hR h x0 2) fun a2 =>
  ko h a2 7 <|
  nm (hI h a2 5) fun (v5 : Int32) =>
  bd (f_X7_next a2 h) fun _ h7 =>
  ko h7 x0 5 <|
  kr (hR h7 x0 2) fun a10 =>
  ko h7 a10 7 <|
  bd (f_X7_isSign a10 40 h7) fun v12 h13 =>
  if v12 = 0 then
    ko h13 x0 5 <|
    kr (hR h13 x0 2) fun a49 =>
    ko h13 a49 7 <|
    bd (f_X5_fail x0 1 (hI h13 a49 3) h13) fun v52 h53 =>
    chk (narrow .boolean (.int v52) = .int v52) <|
    some (v52, h53)
  else
    ko h13 x0 5 <|
    bd (f_X5_opening x0 x1 h13) fun v16 h17 =>
    if v16 = 0 then
      f_X5_pair_86 F h17
    else
      ko h17 x0 5 <|
      bd (F 3 x0 (x1 + 1) h17) fun v20 h21 =>
      if v20 = 0 then
        f_X5_pair_86 F h21
      else
        ko h21 x0 5 <|
        bd (f_X5_sign x0 44 h21) fun v24 h25 =>
        if v24 = 0 then
          f_X5_pair_86 F h25
        else
          ko h25 x0 5 <|
          bd (F 3 x0 (x1 + 1) h25) fun v28 h29 =>
          if v28 = 0 then
            f_X5_pair_86 F h29
          else
            ko h29 x0 5 <|
            bd (f_X5_sign x0 41 h29) fun v32 h33 =>
            if v32 = 0 then
              f_X5_pair_86 F h33
            else
              ko h33 x0 5 <|
              kr (hR h33 x0 3) fun a37 =>
              ko h33 a37 4 <|
              bd (f_X4_addOperation a37 v5 h33) fun _ h40 =>
              some (1, h40)
set_option maxRecDepth 100000 in
set_option maxHeartbeats 4000000 in
theorem t_X5_pair {Γ : gS} {d : Nat} (hd : 9 ≤ d) {F : Nat → Nat → Int32 → aH → Option (Int32 × aH)} (hF : ∀ e, d = e + 1 → SCCP Γ F e) {x0 : Nat} {x1 : Int32} {h : aH} {r : Int32} {h' : aH} (H : f_X5_pair F x0 x1 h = some (r, h')) : Mx Γ gX5_pair d [.ref x0, .int x1] h (some (.int r)) h' := by
  refine Mx.of (by decide +kernel) (Nat.le_of_ble_eq_true rfl) ?_
  unfold f_X5_pair at H
  show Ex Γ gX5_pair d 0 [(0, .ref x0), (1, .int x1)] [] h (some (.int r)) h'
  obtain ⟨d, rfl⟩ : ∃ e, d = e + 1 := ⟨d - 1, by omega⟩
  refine x_aload_n dX5_pair_0 rfl 0 rfl ?_
  obtain ⟨c1, H⟩ := ko_o H
  obtain ⟨a2, c3, H⟩ := kr_o H
  refine x_getR fr_X5_23 dX5_pair_1 c1 rfl c3 ?_
  obtain ⟨c4, H⟩ := ko_o H
  refine x_getI fr_X5_70 dX5_pair_4 c4 rfl ?_
  obtain ⟨v5, ev5, H⟩ := nm_o H
  refine x_istore_n (lv' := [(2, .int v5), (0, .ref x0), (1, .int x1)]) dX5_pair_7 rfl (by decide) ev5 rfl ?_
  refine x_aload_n dX5_pair_8 rfl 1 rfl ?_
  refine x_getR fr_X5_23 dX5_pair_9 c1 rfl c3 ?_
  obtain ⟨v6, h7, hc8, H⟩ := bd_o H
  refine x_callVv (As := []) (q := (RX7, TX7, 6)) dX5_pair_12 mi_X7_next lk_X5_97 im_X7_next se_X7_next rfl c4 rfl rfl (Nat.le_of_ble_eq_true rfl) (t_X7_next (by omega) hc8) ?_
  refine x_aload_n dX5_pair_15 rfl 1 rfl ?_
  obtain ⟨c9, H⟩ := ko_o H
  obtain ⟨a10, c11, H⟩ := kr_o H
  refine x_getR fr_X5_23 dX5_pair_16 c9 rfl c11 ?_
  refine x_bipush (v := 40) dX5_pair_19 (by decide) ?_
  obtain ⟨c56, H⟩ := ko_o H
  obtain ⟨v12, h13, hc14, H⟩ := bd_o H
  refine x_callVi (As := [.int 40]) (q := (RX7, TX7, 6)) dX5_pair_21 mi_X7_isSign lk_X5_141 im_X7_isSign se_X7_isSign rfl c56 rfl rfl (Nat.le_of_ble_eq_true rfl) (t_X7_isSign (by omega) hc14) ?_
  refine x_if_ne (tgt := 40) dX5_pair_24 (by decide) (fun c15 => ?_) (fun c15 => ?_)
  · replace H := ite_m H c15
    refine x_aload_n dX5_pair_40 rfl 1 rfl ?_
    refine x_iload_n dX5_pair_41 rfl 2 rfl ?_
    obtain ⟨c47, H⟩ := ko_o H
    obtain ⟨v16, h17, hc18, H⟩ := bd_o H
    refine x_callVi (As := [.int x1]) (q := (RX5, TX5, 5)) dX5_pair_42 mi_X5_opening lk_X5_157 im_X5_opening se_X5_opening rfl c47 rfl rfl (Nat.le_of_ble_eq_true rfl) (t_X5_opening (by omega) hc18) ?_
    refine x_if_eq (tgt := 86) dX5_pair_45 (by decide) (fun c19 => ?_) (fun c19 => ?_)
    · replace H := ite_p H c19
      refine Ex.sub [] rfl ?_
      exact t_X5_pair_86 hd hF H
    · replace H := ite_m H c19
      refine x_aload_n dX5_pair_48 rfl 1 rfl ?_
      refine x_iload_n dX5_pair_49 rfl 2 rfl ?_
      refine x_iconst (v := 1) dX5_pair_50 (by decide) ?_
      refine x_iadd dX5_pair_51 ?_
      obtain ⟨c46, H⟩ := ko_o H
      obtain ⟨v20, h21, hc22, H⟩ := bd_o H
      refine x_callVi (As := [.int (x1 + 1)]) (q := (RX5, TX5, 5)) dX5_pair_52 mi_X5_sum lk_X5_79 im_X5_sum se_X5_sum rfl c46 rfl rfl (Nat.le_of_ble_eq_true rfl) (sccU_X5_sum (hF _ rfl) hc22) ?_
      refine x_if_eq (tgt := 86) dX5_pair_55 (by decide) (fun c23 => ?_) (fun c23 => ?_)
      · replace H := ite_p H c23
        refine Ex.sub [] rfl ?_
        exact t_X5_pair_86 hd hF H
      · replace H := ite_m H c23
        refine x_aload_n dX5_pair_58 rfl 1 rfl ?_
        refine x_bipush (v := 44) dX5_pair_59 (by decide) ?_
        obtain ⟨c45, H⟩ := ko_o H
        obtain ⟨v24, h25, hc26, H⟩ := bd_o H
        refine x_callVi (As := [.int 44]) (q := (RX5, TX5, 5)) dX5_pair_61 mi_X5_sign lk_X5_53 im_X5_sign se_X5_sign rfl c45 rfl rfl (Nat.le_of_ble_eq_true rfl) (t_X5_sign (by omega) hc26) ?_
        refine x_if_eq (tgt := 86) dX5_pair_64 (by decide) (fun c27 => ?_) (fun c27 => ?_)
        · replace H := ite_p H c27
          refine Ex.sub [] rfl ?_
          exact t_X5_pair_86 hd hF H
        · replace H := ite_m H c27
          refine x_aload_n dX5_pair_67 rfl 1 rfl ?_
          refine x_iload_n dX5_pair_68 rfl 2 rfl ?_
          refine x_iconst (v := 1) dX5_pair_69 (by decide) ?_
          refine x_iadd dX5_pair_70 ?_
          obtain ⟨c44, H⟩ := ko_o H
          obtain ⟨v28, h29, hc30, H⟩ := bd_o H
          refine x_callVi (As := [.int (x1 + 1)]) (q := (RX5, TX5, 5)) dX5_pair_71 mi_X5_sum lk_X5_79 im_X5_sum se_X5_sum rfl c44 rfl rfl (Nat.le_of_ble_eq_true rfl) (sccU_X5_sum (hF _ rfl) hc30) ?_
          refine x_if_eq (tgt := 86) dX5_pair_74 (by decide) (fun c31 => ?_) (fun c31 => ?_)
          · replace H := ite_p H c31
            refine Ex.sub [] rfl ?_
            exact t_X5_pair_86 hd hF H
          · replace H := ite_m H c31
            refine x_aload_n dX5_pair_77 rfl 1 rfl ?_
            refine x_bipush (v := 41) dX5_pair_78 (by decide) ?_
            obtain ⟨c43, H⟩ := ko_o H
            obtain ⟨v32, h33, hc34, H⟩ := bd_o H
            refine x_callVi (As := [.int 41]) (q := (RX5, TX5, 5)) dX5_pair_80 mi_X5_sign lk_X5_53 im_X5_sign se_X5_sign rfl c43 rfl rfl (Nat.le_of_ble_eq_true rfl) (t_X5_sign (by omega) hc34) ?_
            refine x_if_ne (tgt := 88) dX5_pair_83 (by decide) (fun c35 => ?_) (fun c35 => ?_)
            · replace H := ite_m H c35
              refine x_aload_n dX5_pair_88 rfl 1 rfl ?_
              obtain ⟨c36, H⟩ := ko_o H
              obtain ⟨a37, c38, H⟩ := kr_o H
              refine x_getR fr_X5_30 dX5_pair_89 c36 rfl c38 ?_
              refine x_iload_n dX5_pair_92 rfl 0 rfl ?_
              obtain ⟨c42, H⟩ := ko_o H
              obtain ⟨v39, h40, hc41, H⟩ := bd_o H
              refine x_callVv (As := [.int v5]) (q := (RX4, TX4, 10)) dX5_pair_93 mi_X4_addOperation lk_X5_151 im_X4_addOperation se_X4_addOperation rfl c42 rfl rfl (Nat.le_of_ble_eq_true rfl) (t_X4_addOperation (by omega) hc41) ?_
              refine x_iconst (v := 1) dX5_pair_96 (by decide) ?_
              obtain ⟨rfl, rfl⟩ := so_1 H
              exact x_iret dX5_pair_97 rfl (by decide)
            · replace H := ite_p H c35
              refine Ex.sub [] rfl ?_
              exact t_X5_pair_86 hd hF H
  · replace H := ite_p H c15
    refine x_aload_n dX5_pair_27 rfl 1 rfl ?_
    refine x_iconst (v := 1) dX5_pair_28 (by decide) ?_
    refine x_aload_n dX5_pair_29 rfl 1 rfl ?_
    obtain ⟨c48, H⟩ := ko_o H
    obtain ⟨a49, c50, H⟩ := kr_o H
    refine x_getR fr_X5_23 dX5_pair_30 c48 rfl c50 ?_
    obtain ⟨c51, H⟩ := ko_o H
    refine x_getI fr_X5_60 dX5_pair_33 c51 rfl ?_
    obtain ⟨v52, h53, hc54, H⟩ := bd_o H
    refine x_callVi (As := [.int 1, .int (hI h13 a49 3)]) (q := (RX5, TX5, 5)) dX5_pair_36 mi_X5_fail lk_X5_63 im_X5_fail se_X5_fail rfl c48 rfl rfl (Nat.le_of_ble_eq_true rfl) (t_X5_fail (by omega) hc54) ?_
    obtain ⟨c55, H⟩ := chk_o H
    obtain ⟨rfl, rfl⟩ := so_1 H
    exact x_iret dX5_pair_39 rfl c55
def f_X5_wordPart_44 (F : Nat → Nat → Int32 → aH → Option (Int32 × aH)) (x0 : Nat) (h : aH) : Option (Int32 × aH) :=
  ko h x0 5 <|
  kr (hR h x0 2) fun a2 =>
  ko h a2 7 <|
  bd (f_X5_fail x0 1 (hI h a2 3) h) fun v5 h6 =>
  chk (narrow .boolean (.int v5) = .int v5) <|
  some (v5, h6)
set_option maxRecDepth 100000 in
set_option maxHeartbeats 4000000 in
theorem t_X5_wordPart_44 {Γ : gS} {d : Nat} (hd : 9 ≤ d) {F : Nat → Nat → Int32 → aH → Option (Int32 × aH)} (hF : ∀ e, d = e + 1 → SCCP Γ F e) {x0 : Nat} {h : aH} {r : Int32} {h' : aH} (H : f_X5_wordPart_44 F x0 h = some (r, h')) : Ex Γ gX5_wordPart d 44 [(0, .ref x0)] [] h (some (.int r)) h' := by
  unfold f_X5_wordPart_44 at H
  obtain ⟨d, rfl⟩ : ∃ e, d = e + 1 := ⟨d - 1, by omega⟩
  refine x_aload_n dX5_wordPart_44 rfl 0 rfl ?_
  refine x_iconst (v := 1) dX5_wordPart_45 (by decide) ?_
  refine x_aload_n dX5_wordPart_46 rfl 0 rfl ?_
  obtain ⟨c1, H⟩ := ko_o H
  obtain ⟨a2, c3, H⟩ := kr_o H
  refine x_getR fr_X5_23 dX5_wordPart_47 c1 rfl c3 ?_
  obtain ⟨c4, H⟩ := ko_o H
  refine x_getI fr_X5_60 dX5_wordPart_50 c4 rfl ?_
  obtain ⟨v5, h6, hc7, H⟩ := bd_o H
  refine x_callVi (As := [.int 1, .int (hI h a2 3)]) (q := (RX5, TX5, 5)) dX5_wordPart_53 mi_X5_fail lk_X5_63 im_X5_fail se_X5_fail rfl c1 rfl rfl (Nat.le_of_ble_eq_true rfl) (t_X5_fail (by omega) hc7) ?_
  obtain ⟨c8, H⟩ := chk_o H
  obtain ⟨rfl, rfl⟩ := so_1 H
  exact x_iret dX5_wordPart_56 rfl c8
def f_X5_wordPart_93 (F : Nat → Nat → Int32 → aH → Option (Int32 × aH)) (x0 : Nat) (x2 : Int32) (h : aH) : Option (Int32 × aH) :=
  ko h x0 5 <|
  kr (hR h x0 3) fun a10 =>
  ko h a10 4 <|
  bd (f_X4_addOperation a10 x2 h) fun _ h13 =>
  some (1, h13)
set_option maxRecDepth 100000 in
set_option maxHeartbeats 4000000 in
theorem t_X5_wordPart_93 {Γ : gS} {d : Nat} (hd : 9 ≤ d) {F : Nat → Nat → Int32 → aH → Option (Int32 × aH)} (hF : ∀ e, d = e + 1 → SCCP Γ F e) {x0 : Nat} {x2 : Int32} {h : aH} {r : Int32} {h' : aH} (H : f_X5_wordPart_93 F x0 x2 h = some (r, h')) : Ex Γ gX5_wordPart d 93 [(0, .ref x0), (2, .int x2)] [] h (some (.int r)) h' := by
  unfold f_X5_wordPart_93 at H
  obtain ⟨d, rfl⟩ : ∃ e, d = e + 1 := ⟨d - 1, by omega⟩
  refine x_aload_n dX5_wordPart_93 rfl 0 rfl ?_
  obtain ⟨c9, H⟩ := ko_o H
  obtain ⟨a10, c11, H⟩ := kr_o H
  refine x_getR fr_X5_30 dX5_wordPart_94 c9 rfl c11 ?_
  refine x_iload_n dX5_wordPart_97 rfl 1 rfl ?_
  obtain ⟨c15, H⟩ := ko_o H
  obtain ⟨v12, h13, hc14, H⟩ := bd_o H
  refine x_callVv (As := [.int x2]) (q := (RX4, TX4, 10)) dX5_wordPart_98 mi_X4_addOperation lk_X5_151 im_X4_addOperation se_X4_addOperation rfl c15 rfl rfl (Nat.le_of_ble_eq_true rfl) (t_X4_addOperation (by omega) hc14) ?_
  refine x_iconst (v := 1) dX5_wordPart_101 (by decide) ?_
  obtain ⟨rfl, rfl⟩ := so_1 H
  exact x_iret dX5_wordPart_102 rfl (by decide)
def f_X5_wordPart_91 (F : Nat → Nat → Int32 → aH → Option (Int32 × aH)) (h : aH) : Option (Int32 × aH) :=
  some (0, h)
set_option maxRecDepth 100000 in
set_option maxHeartbeats 4000000 in
theorem t_X5_wordPart_91 {Γ : gS} {d : Nat} (hd : 9 ≤ d) {F : Nat → Nat → Int32 → aH → Option (Int32 × aH)} (hF : ∀ e, d = e + 1 → SCCP Γ F e) {h : aH} {r : Int32} {h' : aH} (H : f_X5_wordPart_91 F h = some (r, h')) : Ex Γ gX5_wordPart d 91 [] [] h (some (.int r)) h' := by
  unfold f_X5_wordPart_91 at H
  obtain ⟨d, rfl⟩ : ∃ e, d = e + 1 := ⟨d - 1, by omega⟩
  refine x_iconst (v := 0) dX5_wordPart_91 (by decide) ?_
  obtain ⟨rfl, rfl⟩ := so_1 H
  exact x_iret dX5_wordPart_92 rfl (by decide)
def f_X5_wordPart_22 (F : Nat → Nat → Int32 → aH → Option (Int32 × aH)) (x0 : Nat) (x1 : Int32) (s0 : Int32) (h : aH) : Option (Int32 × aH) :=
  if s0 < 0 then
    f_X5_wordPart_44 F x0 h
  else
    if 18 < s0 then
      f_X5_wordPart_44 F x0 h
    else
      ko h x0 5 <|
      if (((hI h x0 4) >>> (s0 &&& 31)) &&& 1) = 0 then
        f_X5_wordPart_44 F x0 h
      else
        if 17 ≤ s0 then
          bd (f_X5_opening x0 x1 h) fun v21 h22 =>
          if v21 = 0 then
            f_X5_wordPart_91 F h22
          else
            ko h22 x0 5 <|
            bd (F 5 x0 (x1 + 1) h22) fun v25 h26 =>
            if v25 = 0 then
              f_X5_wordPart_91 F h26
            else
              f_X5_wordPart_93 F x0 s0 h26
        else
          kr (hR h x0 2) fun a30 =>
          ko h a30 7 <|
          bd (f_X7_next a30 h) fun _ h33 =>
          f_X5_wordPart_93 F x0 s0 h33
set_option maxRecDepth 100000 in
set_option maxHeartbeats 4000000 in
theorem t_X5_wordPart_22 {Γ : gS} {d : Nat} (hd : 9 ≤ d) {F : Nat → Nat → Int32 → aH → Option (Int32 × aH)} (hF : ∀ e, d = e + 1 → SCCP Γ F e) {x0 : Nat} {x1 : Int32} {s0 : Int32} {h : aH} {r : Int32} {h' : aH} (H : f_X5_wordPart_22 F x0 x1 s0 h = some (r, h')) : Ex Γ gX5_wordPart d 22 [(0, .ref x0), (1, .int x1)] [.int s0] h (some (.int r)) h' := by
  unfold f_X5_wordPart_22 at H
  obtain ⟨d, rfl⟩ : ∃ e, d = e + 1 := ⟨d - 1, by omega⟩
  refine x_istore_n (lv' := [(2, .int s0), (0, .ref x0), (1, .int x1)]) dX5_wordPart_22 rfl (by decide) rfl rfl ?_
  refine x_iload_n dX5_wordPart_23 rfl 0 rfl ?_
  refine x_if_lt (tgt := 44) dX5_wordPart_24 (by decide) (fun c16 => ?_) (fun c16 => ?_)
  · replace H := ite_p H c16
    refine Ex.sub [1] rfl ?_
    exact t_X5_wordPart_44 hd hF H
  · replace H := ite_m H c16
    refine x_iload_n dX5_wordPart_27 rfl 0 rfl ?_
    refine x_bipush (v := 18) dX5_wordPart_28 (by decide) ?_
    refine x_icmp_gt (tgt := 44) dX5_wordPart_30 (by decide) (fun c17 => ?_) (fun c17 => ?_)
    · replace H := ite_p H c17
      refine Ex.sub [1] rfl ?_
      exact t_X5_wordPart_44 hd hF H
    · replace H := ite_m H c17
      refine x_aload_n dX5_wordPart_33 rfl 1 rfl ?_
      obtain ⟨c18, H⟩ := ko_o H
      refine x_getI fr_X5_27 dX5_wordPart_34 c18 rfl ?_
      refine x_iload_n dX5_wordPart_37 rfl 0 rfl ?_
      refine x_ishr dX5_wordPart_38 ?_
      refine x_iconst (v := 1) dX5_wordPart_39 (by decide) ?_
      refine x_iand dX5_wordPart_40 ?_
      refine x_if_ne (tgt := 57) dX5_wordPart_41 (by decide) (fun c19 => ?_) (fun c19 => ?_)
      · replace H := ite_m H c19
        refine x_iload_n dX5_wordPart_57 rfl 0 rfl ?_
        refine x_bipush (v := 17) dX5_wordPart_58 (by decide) ?_
        refine x_icmp_ge (tgt := 73) dX5_wordPart_60 (by decide) (fun c20 => ?_) (fun c20 => ?_)
        · replace H := ite_p H c20
          refine x_aload_n dX5_wordPart_73 rfl 1 rfl ?_
          refine x_iload_n dX5_wordPart_74 rfl 2 rfl ?_
          obtain ⟨v21, h22, hc23, H⟩ := bd_o H
          refine x_callVi (As := [.int x1]) (q := (RX5, TX5, 5)) dX5_wordPart_75 mi_X5_opening lk_X5_157 im_X5_opening se_X5_opening rfl c18 rfl rfl (Nat.le_of_ble_eq_true rfl) (t_X5_opening (by omega) hc23) ?_
          refine x_if_eq (tgt := 91) dX5_wordPart_78 (by decide) (fun c24 => ?_) (fun c24 => ?_)
          · replace H := ite_p H c24
            refine Ex.sub [] rfl ?_
            exact t_X5_wordPart_91 hd hF H
          · replace H := ite_m H c24
            refine x_aload_n dX5_wordPart_81 rfl 1 rfl ?_
            refine x_iload_n dX5_wordPart_82 rfl 2 rfl ?_
            refine x_iconst (v := 1) dX5_wordPart_83 (by decide) ?_
            refine x_iadd dX5_wordPart_84 ?_
            obtain ⟨c29, H⟩ := ko_o H
            obtain ⟨v25, h26, hc27, H⟩ := bd_o H
            refine x_callVi (As := [.int (x1 + 1)]) (q := (RX5, TX5, 5)) dX5_wordPart_85 mi_X5_part lk_X5_163 im_X5_part se_X5_part rfl c29 rfl rfl (Nat.le_of_ble_eq_true rfl) (sccU_X5_part (hF _ rfl) hc27) ?_
            refine x_if_ne (tgt := 93) dX5_wordPart_88 (by decide) (fun c28 => ?_) (fun c28 => ?_)
            · replace H := ite_m H c28
              refine Ex.sub [1, 0] rfl ?_
              exact t_X5_wordPart_93 hd hF H
            · replace H := ite_p H c28
              refine Ex.sub [] rfl ?_
              exact t_X5_wordPart_91 hd hF H
        · replace H := ite_m H c20
          refine x_aload_n dX5_wordPart_63 rfl 1 rfl ?_
          obtain ⟨a30, c31, H⟩ := kr_o H
          refine x_getR fr_X5_23 dX5_wordPart_64 c18 rfl c31 ?_
          obtain ⟨c35, H⟩ := ko_o H
          obtain ⟨v32, h33, hc34, H⟩ := bd_o H
          refine x_callVv (As := []) (q := (RX7, TX7, 6)) dX5_wordPart_67 mi_X7_next lk_X5_97 im_X7_next se_X7_next rfl c35 rfl rfl (Nat.le_of_ble_eq_true rfl) (t_X7_next (by omega) hc34) ?_
          refine x_goto (tgt := 93) dX5_wordPart_70 (by decide) ?_
          refine Ex.sub [1, 0] rfl ?_
          exact t_X5_wordPart_93 hd hF H
      · replace H := ite_p H c19
        refine Ex.sub [1] rfl ?_
        exact t_X5_wordPart_44 hd hF H
def f_X5_wordPart (F : Nat → Nat → Int32 → aH → Option (Int32 × aH)) (x0 : Nat) (x1 : Int32) (h : aH) : Option (Int32 × aH) :=
  ko h x0 5 <|
  kr (hR h x0 2) fun a37 =>
  ko h a37 7 <|
  if (hI h a37 2) = 1 then
    f_X5_wordPart_22 F x0 x1 (hI h a37 5) h
  else
    f_X5_wordPart_22 F x0 x1 (-1) h
set_option maxRecDepth 100000 in
set_option maxHeartbeats 4000000 in
theorem t_X5_wordPart {Γ : gS} {d : Nat} (hd : 9 ≤ d) {F : Nat → Nat → Int32 → aH → Option (Int32 × aH)} (hF : ∀ e, d = e + 1 → SCCP Γ F e) {x0 : Nat} {x1 : Int32} {h : aH} {r : Int32} {h' : aH} (H : f_X5_wordPart F x0 x1 h = some (r, h')) : Mx Γ gX5_wordPart d [.ref x0, .int x1] h (some (.int r)) h' := by
  refine Mx.of (by decide +kernel) (Nat.le_of_ble_eq_true rfl) ?_
  unfold f_X5_wordPart at H
  show Ex Γ gX5_wordPart d 0 [(0, .ref x0), (1, .int x1)] [] h (some (.int r)) h'
  obtain ⟨d, rfl⟩ : ∃ e, d = e + 1 := ⟨d - 1, by omega⟩
  refine x_aload_n dX5_wordPart_0 rfl 0 rfl ?_
  obtain ⟨c36, H⟩ := ko_o H
  obtain ⟨a37, c38, H⟩ := kr_o H
  refine x_getR fr_X5_23 dX5_wordPart_1 c36 rfl c38 ?_
  obtain ⟨c39, H⟩ := ko_o H
  refine x_getI fr_X5_46 dX5_wordPart_4 c39 rfl ?_
  refine x_iconst (v := 1) dX5_wordPart_7 (by decide) ?_
  refine x_icmp_ne (tgt := 21) dX5_wordPart_8 (by decide) (fun c40 => ?_) (fun c40 => ?_)
  · replace H := ite_m H c40
    refine x_iconst (v := (-1)) dX5_wordPart_21 (by decide) ?_
    exact t_X5_wordPart_22 hd hF H
  · replace H := ite_p H c40
    refine x_aload_n dX5_wordPart_11 rfl 0 rfl ?_
    refine x_getR fr_X5_23 dX5_wordPart_12 c36 rfl c38 ?_
    refine x_getI fr_X5_70 dX5_wordPart_15 c39 rfl ?_
    refine x_goto (tgt := 22) dX5_wordPart_18 (by decide) ?_
    exact t_X5_wordPart_22 hd hF H
def f_P : Nat → Nat → Nat → Int32 → aH → Option (Int32 × aH)
  | 0 => fun _ _ _ _ => none
  | n + 1 => fun t x0 x1 h => match t with
    | 0 => f_X5_test (f_P n) x0 x1 h
    | 1 => f_X5_both (f_P n) x0 x1 h
    | 2 => f_X5_fact (f_P n) x0 x1 h
    | 3 => f_X5_sum (f_P n) x0 x1 h
    | 4 => f_X5_product (f_P n) x0 x1 h
    | 5 => f_X5_part (f_P n) x0 x1 h
    | 6 => f_X5_pair (f_P n) x0 x1 h
    | _ => f_X5_wordPart (f_P n) x0 x1 h
theorem scc_all {Γ : gS} (n : Nat) : ∀ {d : Nat}, n + 9 ≤ d → SCCP Γ (f_P n) d := by
  induction n with
  | zero => intro d _; exact ⟨(fun H => by cases H), (fun H => by cases H), (fun H => by cases H), (fun H => by cases H), (fun H => by cases H), (fun H => by cases H), (fun H => by cases H), (fun H => by cases H)⟩
  | succ n ih =>
    intro d hd
    have hF : ∀ e, d = e + 1 → SCCP Γ (f_P n) e := fun e he => ih (by omega)
    exact ⟨fun H => t_X5_test (by omega) hF H, fun H => t_X5_both (by omega) hF H, fun H => t_X5_fact (by omega) hF H, fun H => t_X5_sum (by omega) hF H, fun H => t_X5_product (by omega) hF H, fun H => t_X5_part (by omega) hF H, fun H => t_X5_pair (by omega) hF H, fun H => t_X5_wordPart (by omega) hF H⟩
theorem ts_X5_test {Γ : gS} {d : Nat} (hd : 109 ≤ d) {x0 : Nat} {x1 : Int32} {h : aH} {r : Int32} {h' : aH} (H : f_P 100 0 x0 x1 h = some (r, h')) : Mx Γ gX5_test d [.ref x0, .int x1] h (some (.int r)) h' := sccU_X5_test (scc_all 100 hd) H
theorem ts_X5_both {Γ : gS} {d : Nat} (hd : 109 ≤ d) {x0 : Nat} {x1 : Int32} {h : aH} {r : Int32} {h' : aH} (H : f_P 100 1 x0 x1 h = some (r, h')) : Mx Γ gX5_both d [.ref x0, .int x1] h (some (.int r)) h' := sccU_X5_both (scc_all 100 hd) H
theorem ts_X5_fact {Γ : gS} {d : Nat} (hd : 109 ≤ d) {x0 : Nat} {x1 : Int32} {h : aH} {r : Int32} {h' : aH} (H : f_P 100 2 x0 x1 h = some (r, h')) : Mx Γ gX5_fact d [.ref x0, .int x1] h (some (.int r)) h' := sccU_X5_fact (scc_all 100 hd) H
theorem ts_X5_sum {Γ : gS} {d : Nat} (hd : 109 ≤ d) {x0 : Nat} {x1 : Int32} {h : aH} {r : Int32} {h' : aH} (H : f_P 100 3 x0 x1 h = some (r, h')) : Mx Γ gX5_sum d [.ref x0, .int x1] h (some (.int r)) h' := sccU_X5_sum (scc_all 100 hd) H
theorem ts_X5_product {Γ : gS} {d : Nat} (hd : 109 ≤ d) {x0 : Nat} {x1 : Int32} {h : aH} {r : Int32} {h' : aH} (H : f_P 100 4 x0 x1 h = some (r, h')) : Mx Γ gX5_product d [.ref x0, .int x1] h (some (.int r)) h' := sccU_X5_product (scc_all 100 hd) H
theorem ts_X5_part {Γ : gS} {d : Nat} (hd : 109 ≤ d) {x0 : Nat} {x1 : Int32} {h : aH} {r : Int32} {h' : aH} (H : f_P 100 5 x0 x1 h = some (r, h')) : Mx Γ gX5_part d [.ref x0, .int x1] h (some (.int r)) h' := sccU_X5_part (scc_all 100 hd) H
theorem ts_X5_pair {Γ : gS} {d : Nat} (hd : 109 ≤ d) {x0 : Nat} {x1 : Int32} {h : aH} {r : Int32} {h' : aH} (H : f_P 100 6 x0 x1 h = some (r, h')) : Mx Γ gX5_pair d [.ref x0, .int x1] h (some (.int r)) h' := sccU_X5_pair (scc_all 100 hd) H
theorem ts_X5_wordPart {Γ : gS} {d : Nat} (hd : 109 ≤ d) {x0 : Nat} {x1 : Int32} {h : aH} {r : Int32} {h' : aH} (H : f_P 100 7 x0 x1 h = some (r, h')) : Mx Γ gX5_wordPart d [.ref x0, .int x1] h (some (.int r)) h' := sccU_X5_wordPart (scc_all 100 hd) H
