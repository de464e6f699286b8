def SCCP (Γ : gS) (F : Nat → Nat → Int32 → aH → Option (Int32 × aH)) (d : Nat) : Prop := (∀ {x0 : Nat} {x1 : Int32} {h : aH} {r : Int32} {h' : aH}, F 0 x0 x1 h = some (r, h') → Mx Γ gX5_test d [.ref x0, .int x1] h (some (.int r)) h') ∧ (∀ {x0 : Nat} {x1 : Int32} {h : aH} {r : Int32} {h' : aH}, F 1 x0 x1 h = some (r, h') → Mx Γ gX5_both d [.ref x0, .int x1] h (some (.int r)) h') ∧ (∀ {x0 : Nat} {x1 : Int32} {h : aH} {r : Int32} {h' : aH}, F 2 x0 x1 h = some (r, h') → Mx Γ gX5_fact d [.ref x0, .int x1] h (some (.int r)) h') ∧ (∀ {x0 : Nat} {x1 : Int32} {h : aH} {r : Int32} {h' : aH}, F 3 x0 x1 h = some (r, h') → Mx Γ gX5_sum d [.ref x0, .int x1] h (some (.int r)) h') ∧ (∀ {x0 : Nat} {x1 : Int32} {h : aH} {r : Int32} {h' : aH}, F 4 x0 x1 h = some (r, h') → Mx Γ gX5_product d [.ref x0, .int x1] h (some (.int r)) h') ∧ (∀ {x0 : Nat} {x1 : Int32} {h : aH} {r : Int32} {h' : aH}, F 5 x0 x1 h = some (r, h') → Mx Γ gX5_part d [.ref x0, .int x1] h (some (.int r)) h') ∧ (∀ {x0 : Nat} {x1 : Int32} {h : aH} {r : Int32} {h' : aH}, F 6 x0 x1 h = some (r, h') → Mx Γ gX5_pair d [.ref x0, .int x1] h (some (.int r)) h') ∧ (∀ {x0 : Nat} {x1 : Int32} {h : aH} {r : Int32} {h' : aH}, F 7 x0 x1 h = some (r, h') → Mx Γ gX5_wordPart d [.ref x0, .int x1] h (some (.int r)) h')
theorem sccU_X5_test {Γ : gS} {F : Nat → Nat → Int32 → aH → Option (Int32 × aH)} {d : Nat} (hF : SCCP Γ F d) {x0 : Nat} {x1 : Int32} {h : aH} {r : Int32} {h' : aH} (H : F 0 x0 x1 h = some (r, h')) : Mx Γ gX5_test d [.ref x0, .int x1] h (some (.int r)) h' := hF.1 H
theorem sccU_X5_both {Γ : gS} {F : Nat → Nat → Int32 → aH → Option (Int32 × aH)} {d : Nat} (hF : SCCP Γ F d) {x0 : Nat} {x1 : Int32} {h : aH} {r : Int32} {h' : aH} (H : F 1 x0 x1 h = some (r, h')) : Mx Γ gX5_both d [.ref x0, .int x1] h (some (.int r)) h' := hF.2.1 H
theorem sccU_X5_fact {Γ : gS} {F : Nat → Nat → Int32 → aH → Option (Int32 × aH)} {d : Nat} (hF : SCCP Γ F d) {x0 : Nat} {x1 : Int32} {h : aH} {r : Int32} {h' : aH} (H : F 2 x0 x1 h = some (r, h')) : Mx Γ gX5_fact d [.ref x0, .int x1] h (some (.int r)) h' := hF.2.2.1 H
theorem sccU_X5_sum {Γ : gS} {F : Nat → Nat → Int32 → aH → Option (Int32 × aH)} {d : Nat} (hF : SCCP Γ F d) {x0 : Nat} {x1 : Int32} {h : aH} {r : Int32} {h' : aH} (H : F 3 x0 x1 h = some (r, h')) : Mx Γ gX5_sum d [.ref x0, .int x1] h (some (.int r)) h' := hF.2.2.2.1 H
theorem sccU_X5_product {Γ : gS} {F : Nat → Nat → Int32 → aH → Option (Int32 × aH)} {d : Nat} (hF : SCCP Γ F d) {x0 : Nat} {x1 : Int32} {h : aH} {r : Int32} {h' : aH} (H : F 4 x0 x1 h = some (r, h')) : Mx Γ gX5_product d [.ref x0, .int x1] h (some (.int r)) h' := hF.2.2.2.2.1 H
theorem sccU_X5_part {Γ : gS} {F : Nat → Nat → Int32 → aH → Option (Int32 × aH)} {d : Nat} (hF : SCCP Γ F d) {x0 : Nat} {x1 : Int32} {h : aH} {r : Int32} {h' : aH} (H : F 5 x0 x1 h = some (r, h')) : Mx Γ gX5_part d [.ref x0, .int x1] h (some (.int r)) h' := hF.2.2.2.2.2.1 H
theorem sccU_X5_pair {Γ : gS} {F : Nat → Nat → Int32 → aH → Option (Int32 × aH)} {d : Nat} (hF : SCCP Γ F d) {x0 : Nat} {x1 : Int32} {h : aH} {r : Int32} {h' : aH} (H : F 6 x0 x1 h = some (r, h')) : Mx Γ gX5_pair d [.ref x0, .int x1] h (some (.int r)) h' := hF.2.2.2.2.2.2.1 H
theorem sccU_X5_wordPart {Γ : gS} {F : Nat → Nat → Int32 → aH → Option (Int32 × aH)} {d : Nat} (hF : SCCP Γ F d) {x0 : Nat} {x1 : Int32} {h : aH} {r : Int32} {h' : aH} (H : F 7 x0 x1 h = some (r, h')) : Mx Γ gX5_wordPart d [.ref x0, .int x1] h (some (.int r)) h' := hF.2.2.2.2.2.2.2 H
def f_X5_test_63 (F : Nat → Nat → Int32 → aH → Option (Int32 × aH)) (h : aH) : Option (Int32 × aH) :=
  some (1, h)
set_option maxRecDepth 100000 in
set_option maxHeartbeats 4000000 in
theorem t_X5_test_63 {Γ : gS} {d : Nat} (hd : 8 ≤ d) {F : Nat → Nat → Int32 → aH → Option (Int32 × aH)} (hF : ∀ e, d = e + 1 → SCCP Γ F e) {h : aH} {r : Int32} {h' : aH} (H : f_X5_test_63 F h = some (r, h')) : Ex Γ gX5_test d 63 [] [] h (some (.int r)) h' := by
  unfold f_X5_test_63 at H
  obtain ⟨d, rfl⟩ : ∃ e, d = e + 1 := ⟨d - 1, by omega⟩
  refine x_iconst (v := 1) dX5_test_63 (by decide) ?_
  obtain ⟨rfl, rfl⟩ := so_1 H
  exact x_iret dX5_test_64 rfl (by decide)
def b_X5_test_12 (F : Nat → Nat → Int32 → aH → Option (Int32 × aH)) (k12 : Nat → Int32 → Int32 → aH → Option (Int32 × aH)) (x0 : Nat) (x1 : Int32) (x2 : Int32) (h : aH) : Option (Int32 × aH) :=
  if 1600 ≤ x2 then
    f_X5_test_63 F h
  else
    ko h x0 5 <|
    kr (hR h x0 2) fun a3 =>
    ko h a3 7 <|
    bd (f_X7_isWord a3 19 h) fun v5 h6 =>
    if v5 = 0 then
      f_X5_test_63 F h6
    else
      ko h6 x0 5 <|
      kr (hR h6 x0 2) fun a10 =>
      ko h6 a10 7 <|
      bd (f_X7_next a10 h6) fun _ h13 =>
      ko h13 x0 5 <|
      bd (F 1 x0 x1 h13) fun v15 h16 =>
      if v15 = 0 then
        some (0, h16)
      else
        ko h16 x0 5 <|
        kr (hR h16 x0 3) fun a20 =>
        ko h16 a20 4 <|
        bd (f_X4_addOperation a20 19 h16) fun _ h23 =>
        nm (x2 + 1) fun (v25 : Int32) =>
        k12 x0 x1 v25 h23
set_option maxRecDepth 100000 in
set_option maxHeartbeats 4000000 in
theorem tb_X5_test_12 {Γ : gS} {d : Nat} (hd : 8 ≤ d) {F : Nat → Nat → Int32 → aH → Option (Int32 × aH)} (hF : ∀ e, d = e + 1 → SCCP Γ F e) {k12 : Nat → Int32 → Int32 → aH → Option (Int32 × aH)} (hk12 : ∀ {x0 : Nat} {x1 : Int32} {x2 : Int32} {h : aH} {r : Int32} {h' : aH}, k12 x0 x1 x2 h = some (r, h') → Ex Γ gX5_test d 12 [(0, .ref x0), (1, .int x1), (2, .int x2)] [] h (some (.int r)) h') {x0 : Nat} {x1 : Int32} {x2 : Int32} {h : aH} {r : Int32} {h' : aH} (H : b_X5_test_12 F k12 x0 x1 x2 h = some (r, h')) : Ex Γ gX5_test d 12 [(0, .ref x0), (1, .int x1), (2, .int x2)] [] h (some (.int r)) h' := by
  unfold b_X5_test_12 at H
  obtain ⟨d, rfl⟩ : ∃ e, d = e + 1 := ⟨d - 1, by omega⟩
  refine x_iload_n dX5_test_12 rfl 2 rfl ?_
  refine x_sipush (v := 1600) dX5_test_13 (by decide) ?_
  refine x_icmp_ge (tgt := 63) dX5_test_16 (by decide) (fun c1 => ?_) (fun c1 => ?_)
  · replace H := ite_p H c1
    refine Ex.sub [] rfl ?_
    exact t_X5_test_63 hd hF H
  · replace H := ite_m H c1
    refine x_aload_n dX5_test_19 rfl 0 rfl ?_
    obtain ⟨c2, H⟩ := ko_o H
    obtain ⟨a3, c4, H⟩ := kr_o H
    refine x_getR fr_X5_23 dX5_test_20 c2 rfl c4 ?_
    refine x_bipush (v := 19) dX5_test_23 (by decide) ?_
    obtain ⟨c29, H⟩ := ko_o H
    obtain ⟨v5, h6, hc7, H⟩ := bd_o H
    refine x_callVi (As := [.int 19]) (q := (RX7, TX7, 6)) dX5_test_25 mi_X7_isWord lk_X5_138 im_X7_isWord se_X7_isWord rfl c29 rfl rfl (Nat.le_of_ble_eq_true rfl) (t_X7_isWord (by omega) hc7) ?_
    refine x_if_eq (tgt := 63) dX5_test_28 (by decide) (fun c8 => ?_) (fun c8 => ?_)
    · replace H := ite_p H c8
      refine Ex.sub [] rfl ?_
      exact t_X5_test_63 hd hF H
    · replace H := ite_m H c8
      refine x_aload_n dX5_test_31 rfl 0 rfl ?_
      obtain ⟨c9, H⟩ := ko_o H
      obtain ⟨a10, c11, H⟩ := kr_o H
      refine x_getR fr_X5_23 dX5_test_32 c9 rfl c11 ?_
      obtain ⟨c28, H⟩ := ko_o H
      obtain ⟨v12, h13, hc14, H⟩ := bd_o H
      refine x_callVv (As := []) (q := (RX7, TX7, 6)) dX5_test_35 mi_X7_next lk_X5_97 im_X7_next se_X7_next rfl c28 rfl rfl (Nat.le_of_ble_eq_true rfl) (t_X7_next (by omega) hc14) ?_
      refine x_aload_n dX5_test_38 rfl 0 rfl ?_
      refine x_iload_n dX5_test_39 rfl 1 rfl ?_
      obtain ⟨c27, H⟩ := ko_o H
      obtain ⟨v15, h16, hc17, H⟩ := bd_o H
      refine x_callVi (As := [.int x1]) (q := (RX5, TX5, 5)) dX5_test_40 mi_X5_both lk_X5_148 im_X5_both se_X5_both rfl c27 rfl rfl (Nat.le_of_ble_eq_true rfl) (sccU_X5_both (hF _ rfl) hc17) ?_
      refine x_if_ne (tgt := 48) dX5_test_43 (by decide) (fun c18 => ?_) (fun c18 => ?_)
      · replace H := ite_m H c18
        refine x_aload_n dX5_test_48 rfl 0 rfl ?_
        obtain ⟨c19, H⟩ := ko_o H
        obtain ⟨a20, c21, H⟩ := kr_o H
        refine x_getR fr_X5_30 dX5_test_49 c19 rfl c21 ?_
        refine x_bipush (v := 19) dX5_test_52 (by decide) ?_
        obtain ⟨c26, H⟩ := ko_o H
        obtain ⟨v22, h23, hc24, H⟩ := bd_o H
        refine x_callVv (As := [.int 19]) (q := (RX4, TX4, 10)) dX5_test_54 mi_X4_addOperation lk_X5_151 im_X4_addOperation se_X4_addOperation rfl c26 rfl rfl (Nat.le_of_ble_eq_true rfl) (t_X4_addOperation (by omega) hc24) ?_
        obtain ⟨v25, ev25, H⟩ := nm_o H
        refine x_iinc (v := v25) (lv' := [(2, .int v25), (0, .ref x0), (1, .int x1)]) dX5_test_57 2 rfl (by decide) ev25 rfl ?_
        refine x_goto (tgt := 12) dX5_test_60 (by decide) ?_
        refine Ex.sub [1, 2, 0] rfl ?_
        exact hk12 H
      · replace H := ite_p H c18
        refine x_iconst (v := 0) dX5_test_46 (by decide) ?_
        obtain ⟨rfl, rfl⟩ := so_1 H
        exact x_iret dX5_test_47 rfl (by decide)
def f_X5_test_12 (F : Nat → Nat → Int32 → aH → Option (Int32 × aH)) : Nat → Nat → Int32 → Int32 → aH → Option (Int32 × aH)
  | 0 => fun _ _ _ _ => none
  | n + 1 => b_X5_test_12 F (f_X5_test_12 F n)
set_option maxRecDepth 100000 in
set_option maxHeartbeats 4000000 in
theorem t_X5_test_12 {Γ : gS} {d : Nat} (hd : 8 ≤ d) {F : Nat → Nat → Int32 → aH → Option (Int32 × aH)} (hF : ∀ e, d = e + 1 → SCCP Γ F e) (n : Nat) : ∀ {x0 : Nat} {x1 : Int32} {x2 : Int32} {h : aH} {r : Int32} {h' : aH}, f_X5_test_12 F n x0 x1 x2 h = some (r, h') → Ex Γ gX5_test d 12 [(0, .ref x0), (1, .int x1), (2, .int x2)] [] h (some (.int r)) h' := by
  induction n with
  | zero => intro x0 x1 x2 h r h' H; cases H
  | succ n ih => intro x0 x1 x2 h r h' H; exact tb_X5_test_12 hd hF ih H
def f_X5_test (F : Nat → Nat → Int32 → aH → Option (Int32 × aH)) (x0 : Nat) (x1 : Int32) (h : aH) : Option (Int32 × aH) :=
  ko h x0 5 <|
  bd (F 1 x0 x1 h) fun v30 h31 =>
  if v30 = 0 then
    some (0, h31)
  else
    f_X5_test_12 F FU x0 x1 0 h31
set_option maxRecDepth 100000 in
set_option maxHeartbeats 4000000 in
theorem t_X5_test {Γ : gS} {d : Nat} (hd : 8 ≤ d) {F : Nat → Nat → Int32 → aH → Option (Int32 × aH)} (hF : ∀ e, d = e + 1 → SCCP Γ F e) {x0 : Nat} {x1 : Int32} {h : aH} {r : Int32} {h' : aH} (H : f_X5_test F x0 x1 h = some (r, h')) : Mx Γ gX5_test d [.ref x0, .int x1] h (some (.int r)) h' := by
  refine Mx.of (by decide +kernel) (Nat.le_of_ble_eq_true rfl) ?_
  unfold f_X5_test at H
  show Ex Γ gX5_test d 0 [(0, .ref x0), (1, .int x1)] [] h (some (.int r)) h'
  obtain ⟨d, rfl⟩ : ∃ e, d = e + 1 := ⟨d - 1, by omega⟩
  refine x_aload_n dX5_test_0 rfl 0 rfl ?_
  refine x_iload_n dX5_test_1 rfl 1 rfl ?_
  obtain ⟨c34, H⟩ := ko_o H
  obtain ⟨v30, h31, hc32, H⟩ := bd_o H
  refine x_callVi (As := [.int x1]) (q := (RX5, TX5, 5)) dX5_test_2 mi_X5_both lk_X5_148 im_X5_both se_X5_both rfl c34 rfl rfl (Nat.le_of_ble_eq_true rfl) (sccU_X5_both (hF _ rfl) hc32) ?_
  refine x_if_ne (tgt := 10) dX5_test_5 (by decide) (fun c33 => ?_) (fun c33 => ?_)
  · replace H := ite_m H c33
    refine x_iconst (v := 0) dX5_test_10 (by decide) ?_
    refine x_istore_n (lv' := [(2, .int 0), (0, .ref x0), (1, .int x1)]) dX5_test_11 rfl (by decide) rfl rfl ?_
    refine Ex.sub [1, 2, 0] rfl ?_
    exact t_X5_test_12 hd hF FU H
  · replace H := ite_p H c33
    refine x_iconst (v := 0) dX5_test_8 (by decide) ?_
    obtain ⟨rfl, rfl⟩ := so_1 H
    exact x_iret dX5_test_9 rfl (by decide)
def f_X5_both_63 (F : Nat → Nat → Int32 → aH → Option (Int32 × aH)) (h : aH) : Option (Int32 × aH) :=
  some (1, h)
set_option maxRecDepth 100000 in
set_option maxHeartbeats 4000000 in
theorem t_X5_both_63 {Γ : gS} {d : Nat} (hd : 8 ≤ d) {F : Nat → Nat → Int32 → aH → Option (Int32 × aH)} (hF : ∀ e, d = e + 1 → SCCP Γ F e) {h : aH} {r : Int32} {h' : aH} (H : f_X5_both_63 F h = some (r, h')) : Ex Γ gX5_both d 63 [] [] h (some (.int r)) h' := by
  unfold f_X5_both_63 at H
  obtain ⟨d, rfl⟩ : ∃ e, d = e + 1 := ⟨d - 1, by omega⟩
  refine x_iconst (v := 1) dX5_both_63 (by decide) ?_
  obtain ⟨rfl, rfl⟩ := so_1 H
  exact x_iret dX5_both_64 rfl (by decide)
def b_X5_both_12 (F : Nat → Nat → Int32 → aH → Option (Int32 × aH)) (k12 : Nat → Int32 → Int32 → aH → Option (Int32 × aH)) (x0 : Nat) (x1 : Int32) (x2 : Int32) (h : aH) : Option (Int32 × aH) :=
  if 1600 ≤ x2 then
    f_X5_both_63 F h
  else
    ko h x0 5 <|
    kr (hR h x0 2) fun a3 =>
    ko h a3 7 <|
    bd (f_X7_isWord a3 20 h) fun v5 h6 =>
    if v5 = 0 then
      f_X5_both_63 F h6
    else
      ko h6 x0 5 <|
      kr (hR h6 x0 2) fun a10 =>
      ko h6 a10 7 <|
      bd (f_X7_next a10 h6) fun _ h13 =>
      ko h13 x0 5 <|
      bd (F 2 x0 x1 h13) fun v15 h16 =>
      if v15 = 0 then
        some (0, h16)
      else
        ko h16 x0 5 <|
        kr (hR h16 x0 3) fun a20 =>
        ko h16 a20 4 <|
        bd (f_X4_addOperation a20 20 h16) fun _ h23 =>
        nm (x2 + 1) fun (v25 : Int32) =>
        k12 x0 x1 v25 h23
set_option maxRecDepth 100000 in
set_option maxHeartbeats 4000000 in
theorem tb_X5_both_12 {Γ : gS} {d : Nat} (hd : 8 ≤ d) {F : Nat → Nat → Int32 → aH → Option (Int32 × aH)} (hF : ∀ e, d = e + 1 → SCCP Γ F e) {k12 : Nat → Int32 → Int32 → aH → Option (Int32 × aH)} (hk12 : ∀ {x0 : Nat} {x1 : Int32} {x2 : Int32} {h : aH} {r : Int32} {h' : aH}, k12 x0 x1 x2 h = some (r, h') → Ex Γ gX5_both d 12 [(0, .ref x0), (1, .int x1), (2, .int x2)] [] h (some (.int r)) h') {x0 : Nat} {x1 : Int32} {x2 : Int32} {h : aH} {r : Int32} {h' : aH} (H : b_X5_both_12 F k12 x0 x1 x2 h = some (r, h')) : Ex Γ gX5_both d 12 [(0, .ref x0), (1, .int x1), (2, .int x2)] [] h (some (.int r)) h' := by
  unfold b_X5_both_12 at H
  obtain ⟨d, rfl⟩ : ∃ e, d = e + 1 := ⟨d - 1, by omega⟩
  refine x_iload_n dX5_both_12 rfl 2 rfl ?_
  refine x_sipush (v := 1600) dX5_both_13 (by decide) ?_
  refine x_icmp_ge (tgt := 63) dX5_both_16 (by decide) (fun c1 => ?_) (fun c1 => ?_)
  · replace H := ite_p H c1
    refine Ex.sub [] rfl ?_
    exact t_X5_both_63 hd hF H
  · replace H := ite_m H c1
    refine x_aload_n dX5_both_19 rfl 0 rfl ?_
    obtain ⟨c2, H⟩ := ko_o H
    obtain ⟨a3, c4, H⟩ := kr_o H
    refine x_getR fr_X5_23 dX5_both_20 c2 rfl c4 ?_
    refine x_bipush (v := 20) dX5_both_23 (by decide) ?_
    obtain ⟨c29, H⟩ := ko_o H
    obtain ⟨v5, h6, hc7, H⟩ := bd_o H
    refine x_callVi (As := [.int 20]) (q := (RX7, TX7, 6)) dX5_both_25 mi_X7_isWord lk_X5_138 im_X7_isWord se_X7_isWord rfl c29 rfl rfl (Nat.le_of_ble_eq_true rfl) (t_X7_isWord (by omega) hc7) ?_
    refine x_if_eq (tgt := 63) dX5_both_28 (by decide) (fun c8 => ?_) (fun c8 => ?_)
    · replace H := ite_p H c8
      refine Ex.sub [] rfl ?_
      exact t_X5_both_63 hd hF H
    · replace H := ite_m H c8
      refine x_aload_n dX5_both_31 rfl 0 rfl ?_
      obtain ⟨c9, H⟩ := ko_o H
      obtain ⟨a10, c11, H⟩ := kr_o H
      refine x_getR fr_X5_23 dX5_both_32 c9 rfl c11 ?_
      obtain ⟨c28, H⟩ := ko_o H
      obtain ⟨v12, h13, hc14, H⟩ := bd_o H
      refine x_callVv (As := []) (q := (RX7, TX7, 6)) dX5_both_35 mi_X7_next lk_X5_97 im_X7_next se_X7_next rfl c28 rfl rfl (Nat.le_of_ble_eq_true rfl) (t_X7_next (by omega) hc14) ?_
      refine x_aload_n dX5_both_38 rfl 0 rfl ?_
      refine x_iload_n dX5_both_39 rfl 1 rfl ?_
      obtain ⟨c27, H⟩ := ko_o H
      obtain ⟨v15, h16, hc17, H⟩ := bd_o H
      refine x_callVi (As := [.int x1]) (q := (RX5, TX5, 5)) dX5_both_40 mi_X5_fact lk_X5_154 im_X5_fact se_X5_fact rfl c27 rfl rfl (Nat.le_of_ble_eq_true rfl) (sccU_X5_fact (hF _ rfl) hc17) ?_
      refine x_if_ne (tgt := 48) dX5_both_43 (by decide) (fun c18 => ?_) (fun c18 => ?_)
      · replace H := ite_m H c18
        refine x_aload_n dX5_both_48 rfl 0 rfl ?_
        obtain ⟨c19, H⟩ := ko_o H
        obtain ⟨a20, c21, H⟩ := kr_o H
        refine x_getR fr_X5_30 dX5_both_49 c19 rfl c21 ?_
        refine x_bipush (v := 20) dX5_both_52 (by decide) ?_
        obtain ⟨c26, H⟩ := ko_o H
        obtain ⟨v22, h23, hc24, H⟩ := bd_o H
        refine x_callVv (As := [.int 20]) (q := (RX4, TX4, 10)) dX5_both_54 mi_X4_addOperation lk_X5_151 im_X4_addOperation se_X4_addOperation rfl c26 rfl rfl (Nat.le_of_ble_eq_true rfl) (t_X4_addOperation (by omega) hc24) ?_
        obtain ⟨v25, ev25, H⟩ := nm_o H
        refine x_iinc (v := v25) (lv' := [(2, .int v25), (0, .ref x0), (1, .int x1)]) dX5_both_57 2 rfl (by decide) ev25 rfl ?_
        refine x_goto (tgt := 12) dX5_both_60 (by decide) ?_
        refine Ex.sub [1, 2, 0] rfl ?_
        exact hk12 H
      · replace H := ite_p H c18
        refine x_iconst (v := 0) dX5_both_46 (by decide) ?_
        obtain ⟨rfl, rfl⟩ := so_1 H
        exact x_iret dX5_both_47 rfl (by decide)
def f_X5_both_12 (F : Nat → Nat → Int32 → aH → Option (Int32 × aH)) : Nat → Nat → Int32 → Int32 → aH → Option (Int32 × aH)
  | 0 => fun _ _ _ _ => none
  | n + 1 => b_X5_both_12 F (f_X5_both_12 F n)
set_option maxRecDepth 100000 in
set_option maxHeartbeats 4000000 in
theorem t_X5_both_12 {Γ : gS} {d : Nat} (hd : 8 ≤ d) {F : Nat → Nat → Int32 → aH → Option (Int32 × aH)} (hF : ∀ e, d = e + 1 → SCCP Γ F e) (n : Nat) : ∀ {x0 : Nat} {x1 : Int32} {x2 : Int32} {h : aH} {r : Int32} {h' : aH}, f_X5_both_12 F n x0 x1 x2 h = some (r, h') → Ex Γ gX5_both d 12 [(0, .ref x0), (1, .int x1), (2, .int x2)] [] h (some (.int r)) h' := by
  induction n with
  | zero => intro x0 x1 x2 h r h' H; cases H
  | succ n ih => intro x0 x1 x2 h r h' H; exact tb_X5_both_12 hd hF ih H
def f_X5_both (F : Nat → Nat → Int32 → aH → Option (Int32 × aH)) (x0 : Nat) (x1 : Int32) (h : aH) : Option (Int32 × aH) :=
  ko h x0 5 <|
  bd (F 2 x0 x1 h) fun v30 h31 =>
  if v30 = 0 then
    some (0, h31)
  else
    f_X5_both_12 F FU x0 x1 0 h31
set_option maxRecDepth 100000 in
set_option maxHeartbeats 4000000 in
theorem t_X5_both {Γ : gS} {d : Nat} (hd : 8 ≤ d) {F : Nat → Nat → Int32 → aH → Option (Int32 × aH)} (hF : ∀ e, d = e + 1 → SCCP Γ F e) {x0 : Nat} {x1 : Int32} {h : aH} {r : Int32} {h' : aH} (H : f_X5_both F x0 x1 h = some (r, h')) : Mx Γ gX5_both d [.ref x0, .int x1] h (some (.int r)) h' := by
  refine Mx.of (by decide +kernel) (Nat.le_of_ble_eq_true rfl) ?_
  unfold f_X5_both at H
  show Ex Γ gX5_both d 0 [(0, .ref x0), (1, .int x1)] [] h (some (.int r)) h'
  obtain ⟨d, rfl⟩ : ∃ e, d = e + 1 := ⟨d - 1, by omega⟩
  refine x_aload_n dX5_both_0 rfl 0 rfl ?_
  refine x_iload_n dX5_both_1 rfl 1 rfl ?_
  obtain ⟨c34, H⟩ := ko_o H
  obtain ⟨v30, h31, hc32, H⟩ := bd_o H
  refine x_callVi (As := [.int x1]) (q := (RX5, TX5, 5)) dX5_both_2 mi_X5_fact lk_X5_154 im_X5_fact se_X5_fact rfl c34 rfl rfl (Nat.le_of_ble_eq_true rfl) (sccU_X5_fact (hF _ rfl) hc32) ?_
  refine x_if_ne (tgt := 10) dX5_both_5 (by decide) (fun c33 => ?_) (fun c33 => ?_)
  · replace H := ite_m H c33
    refine x_iconst (v := 0) dX5_both_10 (by decide) ?_
    refine x_istore_n (lv' := [(2, .int 0), (0, .ref x0), (1, .int x1)]) dX5_both_11 rfl (by decide) rfl rfl ?_
    refine Ex.sub [1, 2, 0] rfl ?_
    exact t_X5_both_12 hd hF FU H
  · replace H := ite_p H c33
    refine x_iconst (v := 0) dX5_both_8 (by decide) ?_
    obtain ⟨rfl, rfl⟩ := so_1 H
    exact x_iret dX5_both_9 rfl (by decide)
def f_X5_fact_60 (F : Nat → Nat → Int32 → aH → Option (Int32 × aH)) (h : aH) : Option (Int32 × aH) :=
  some (0, h)
set_option maxRecDepth 100000 in
set_option maxHeartbeats 4000000 in
theorem t_X5_fact_60 {Γ : gS} {d : Nat} (hd : 9 ≤ d) {F : Nat → Nat → Int32 → aH → Option (Int32 × aH)} (hF : ∀ e, d = e + 1 → SCCP Γ F e) {h : aH} {r : Int32} {h' : aH} (H : f_X5_fact_60 F h = some (r, h')) : Ex Γ gX5_fact d 60 [] [] h (some (.int r)) h' := by
  unfold f_X5_fact_60 at H
  obtain ⟨d, rfl⟩ : ∃ e, d = e + 1 := ⟨d - 1, by omega⟩
  refine x_iconst (v := 0) dX5_fact_60 (by decide) ?_
  obtain ⟨rfl, rfl⟩ := so_1 H
  exact x_iret dX5_fact_61 rfl (by decide)
def f_X5_fact_117 (F : Nat → Nat → Int32 → aH → Option (Int32 × aH)) (s0 : Int32) (h : aH) : Option (Int32 × aH) :=
  chk (narrow .boolean (.int s0) = .int s0) <|
  some (s0, h)
set_option maxRecDepth 100000 in
set_option maxHeartbeats 4000000 in
theorem t_X5_fact_117 {Γ : gS} {d : Nat} (hd : 9 ≤ d) {F : Nat → Nat → Int32 → aH → Option (Int32 × aH)} (hF : ∀ e, d = e + 1 → SCCP Γ F e) {s0 : Int32} {h : aH} {r : Int32} {h' : aH} (H : f_X5_fact_117 F s0 h = some (r, h')) : Ex Γ gX5_fact d 117 [] [.int s0] h (some (.int r)) h' := by
  unfold f_X5_fact_117 at H
  obtain ⟨d, rfl⟩ : ∃ e, d = e + 1 := ⟨d - 1, by omega⟩
  obtain ⟨c1, H⟩ := chk_o H
  obtain ⟨rfl, rfl⟩ := so_1 H
  exact x_iret dX5_fact_117 rfl c1
def f_X5_fact_116 (F : Nat → Nat → Int32 → aH → Option (Int32 × aH)) (h : aH) : Option (Int32 × aH) :=
  f_X5_fact_117 F 0 h
set_option maxRecDepth 100000 in
set_option maxHeartbeats 4000000 in
theorem t_X5_fact_116 {Γ : gS} {d : Nat} (hd : 9 ≤ d) {F : Nat → Nat → Int32 → aH → Option (Int32 × aH)} (hF : ∀ e, d = e + 1 → SCCP Γ F e) {h : aH} {r : Int32} {h' : aH} (H : f_X5_fact_116 F h = some (r, h')) : Ex Γ gX5_fact d 116 [] [] h (some (.int r)) h' := by
  unfold f_X5_fact_116 at H
  obtain ⟨d, rfl⟩ : ∃ e, d = e + 1 := ⟨d - 1, by omega⟩
  refine x_iconst (v := 0) dX5_fact_116 (by decide) ?_
  exact t_X5_fact_117 hd hF H
def f_X5_fact_177 (F : Nat → Nat → Int32 → aH → Option (Int32 × aH)) (x0 : Nat) (x1 : Int32) (h : aH) : Option (Int32 × aH) :=
  ko h x0 5 <|
  kr (hR h x0 2) fun a3 =>
  ko h a3 7 <|
  nm (hI h a3 5) fun (v6 : Int32) =>
  kr (hR h x0 2) fun a7 =>
  ko h a7 7 <|
  bd (f_X7_next a7 h) fun _ h10 =>
  ko h10 x0 5 <|
  bd (F 3 x0 x1 h10) fun v12 h13 =>
  if v12 = 0 then
    some (0, h13)
  else
    ko h13 x0 5 <|
    kr (hR h13 x0 3) fun a17 =>
    ko h13 a17 4 <|
    bd (f_X4_addOperation a17 v6 h13) fun _ h20 =>
    some (1, h20)
set_option maxRecDepth 100000 in
set_option maxHeartbeats 4000000 in
theorem t_X5_fact_177 {Γ : gS} {d : Nat} (hd : 9 ≤ d) {F : Nat → Nat → Int32 → aH → Option (Int32 × aH)} (hF : ∀ e, d = e + 1 → SCCP Γ F e) {x0 : Nat} {x1 : Int32} {h : aH} {r : Int32} {h' : aH} (H : f_X5_fact_177 F x0 x1 h = some (r, h')) : Ex Γ gX5_fact d 177 [(0, .ref x0), (1, .int x1)] [] h (some (.int r)) h' := by
  unfold f_X5_fact_177 at H
  obtain ⟨d, rfl⟩ : ∃ e, d = e + 1 := ⟨d - 1, by omega⟩
  refine x_aload_n dX5_fact_177 rfl 0 rfl ?_
  obtain ⟨c2, H⟩ := ko_o H
  obtain ⟨a3, c4, H⟩ := kr_o H
  refine x_getR fr_X5_23 dX5_fact_178 c2 rfl c4 ?_
  obtain ⟨c5, H⟩ := ko_o H
  refine x_getI fr_X5_70 dX5_fact_181 c5 rfl ?_
  obtain ⟨v6, ev6, H⟩ := nm_o H
  refine x_istore_n (lv' := [(2, .int v6), (0, .ref x0), (1, .int x1)]) dX5_fact_184 rfl (by decide) ev6 rfl ?_
  refine x_aload_n dX5_fact_185 rfl 1 rfl ?_
  obtain ⟨a7, c8, H⟩ := kr_o H
  refine x_getR fr_X5_23 dX5_fact_186 c2 rfl c8 ?_
  obtain ⟨c24, H⟩ := ko_o H
  obtain ⟨v9, h10, hc11, H⟩ := bd_o H
  refine x_callVv (As := []) (q := (RX7, TX7, 6)) dX5_fact_189 mi_X7_next lk_X5_97 im_X7_next se_X7_next rfl c24 rfl rfl (Nat.le_of_ble_eq_true rfl) (t_X7_next (by omega) hc11) ?_
  refine x_aload_n dX5_fact_192 rfl 1 rfl ?_
  refine x_iload_n dX5_fact_193 rfl 2 rfl ?_
  obtain ⟨c23, H⟩ := ko_o H
  obtain ⟨v12, h13, hc14, H⟩ := bd_o H
  refine x_callVi (As := [.int x1]) (q := (RX5, TX5, 5)) dX5_fact_194 mi_X5_sum lk_X5_79 im_X5_sum se_X5_sum rfl c23 rfl rfl (Nat.le_of_ble_eq_true rfl) (sccU_X5_sum (hF _ rfl) hc14) ?_
  refine x_if_ne (tgt := 202) dX5_fact_197 (by decide) (fun c15 => ?_) (fun c15 => ?_)
  · replace H := ite_m H c15
    refine x_aload_n dX5_fact_202 rfl 1 rfl ?_
    obtain ⟨c16, H⟩ := ko_o H
    obtain ⟨a17, c18, H⟩ := kr_o H
    refine x_getR fr_X5_30 dX5_fact_203 c16 rfl c18 ?_
    refine x_iload_n dX5_fact_206 rfl 0 rfl ?_
    obtain ⟨c22, H⟩ := ko_o H
    obtain ⟨v19, h20, hc21, H⟩ := bd_o H
    refine x_callVv (As := [.int v6]) (q := (RX4, TX4, 10)) dX5_fact_207 mi_X4_addOperation lk_X5_151 im_X4_addOperation se_X4_addOperation rfl c22 rfl rfl (Nat.le_of_ble_eq_true rfl) (t_X4_addOperation (by omega) hc21) ?_
    refine x_iconst (v := 1) dX5_fact_210 (by decide) ?_
    obtain ⟨rfl, rfl⟩ := so_1 H
    exact x_iret dX5_fact_211 rfl (by decide)
  · replace H := ite_p H c15
    refine x_iconst (v := 0) dX5_fact_200 (by decide) ?_
    obtain ⟨rfl, rfl⟩ := so_1 H
    exact x_iret dX5_fact_201 rfl (by decide)
def f_X5_fact (F : Nat → Nat → Int32 → aH → Option (Int32 × aH)) (x0 : Nat) (x1 : Int32) (h : aH) : Option (Int32 × aH) :=
  ko h x0 5 <|
  kr (hR h x0 2) fun a26 =>
  ko h a26 7 <|
  bd (f_X7_isWord a26 22 h) fun v28 h29 =>
  if v28 = 0 then
    ko h29 x0 5 <|
    kr (hR h29 x0 2) fun a33 =>
    ko h29 a33 7 <|
    bd (f_X7_isWord a33 21 h29) fun v35 h36 =>
    if v35 = 0 then
      ko h36 x0 5 <|
      kr (hR h36 x0 2) fun a40 =>
      ko h36 a40 7 <|
      bd (f_X7_isSign a40 91 h36) fun v42 h43 =>
      if v42 = 0 then
        ko h43 x0 5 <|
        bd (F 3 x0 x1 h43) fun v46 h47 =>
        if v46 = 0 then
          some (0, h47)
        else
          ko h47 x0 5 <|
          kr (hR h47 x0 2) fun a51 =>
          ko h47 a51 7 <|
          bd (f_X7_isSign a51 60 h47) fun v53 h54 =>
          if v53 = 0 then
            ko h54 x0 5 <|
            kr (hR h54 x0 2) fun a58 =>
            ko h54 a58 7 <|
            bd (f_X7_isSign a58 62 h54) fun v60 h61 =>
            if v60 = 0 then
              ko h61 x0 5 <|
              kr (hR h61 x0 2) fun a65 =>
              ko h61 a65 7 <|
              bd (f_X7_isSign a65 61 h61) fun v67 h68 =>
              if v67 = 0 then
                ko h68 x0 5 <|
                kr (hR h68 x0 2) fun a72 =>
                ko h68 a72 7 <|
                bd (f_X5_fail x0 1 (hI h68 a72 3) h68) fun v75 h76 =>
                chk (narrow .boolean (.int v75) = .int v75) <|
                some (v75, h76)
              else
                f_X5_fact_177 F x0 x1 h68
            else
              f_X5_fact_177 F x0 x1 h61
          else
            f_X5_fact_177 F x0 x1 h54
      else
        ko h43 x0 5 <|
        bd (f_X5_opening x0 x1 h43) fun v83 h84 =>
        if v83 = 0 then
          f_X5_fact_116 F h84
        else
          ko h84 x0 5 <|
          bd (F 0 x0 (x1 + 1) h84) fun v87 h88 =>
          if v87 = 0 then
            f_X5_fact_116 F h88
          else
            ko h88 x0 5 <|
            bd (f_X5_sign x0 93 h88) fun v91 h92 =>
            if v91 = 0 then
              f_X5_fact_116 F h92
            else
              f_X5_fact_117 F 1 h92
    else
      ko h36 x0 5 <|
      bd (f_X5_opening x0 x1 h36) fun v99 h100 =>
      if v99 = 0 then
        f_X5_fact_60 F h100
      else
        ko h100 x0 5 <|
        bd (F 2 x0 (x1 + 1) h100) fun v103 h104 =>
        if v103 = 0 then
          f_X5_fact_60 F h104
        else
          ko h104 x0 5 <|
          kr (hR h104 x0 3) fun a108 =>
          ko h104 a108 4 <|
          bd (f_X4_addOperation a108 21 h104) fun _ h111 =>
          some (1, h111)
  else
    ko h29 x0 5 <|
    kr (hR h29 x0 2) fun a118 =>
    ko h29 a118 7 <|
    bd (f_X7_next a118 h29) fun _ h121 =>
    ko h121 x0 5 <|
    kr (hR h121 x0 3) fun a124 =>
    ko h121 a124 4 <|
    bd (f_X4_addOperation a124 22 h121) fun _ h127 =>
    some (1, h127)
set_option maxRecDepth 100000 in
set_option maxHeartbeats 4000000 in
theorem t_X5_fact {Γ : gS} {d : Nat} (hd : 9 ≤ d) {F : Nat → Nat → Int32 → aH → Option (Int32 × aH)} (hF : ∀ e, d = e + 1 → SCCP Γ F e) {x0 : Nat} {x1 : Int32} {h : aH} {r : Int32} {h' : aH} (H : f_X5_fact F x0 x1 h = some (r, h')) : Mx Γ gX5_fact d [.ref x0, .int x1] h (some (.int r)) h' := by
  refine Mx.of (by decide +kernel) (Nat.le_of_ble_eq_true rfl) ?_
  unfold f_X5_fact at H
  show Ex Γ gX5_fact d 0 [(0, .ref x0), (1, .int x1)] [] h (some (.int r)) h'
  obtain ⟨d, rfl⟩ : ∃ e, d = e + 1 := ⟨d - 1, by omega⟩
  refine x_aload_n dX5_fact_0 rfl 0 rfl ?_
  obtain ⟨c25, H⟩ := ko_o H
  obtain ⟨a26, c27, H⟩ := kr_o H
  refine x_getR fr_X5_23 dX5_fact_1 c25 rfl c27 ?_
  refine x_bipush (v := 22) dX5_fact_4 (by decide) ?_
  obtain ⟨c131, H⟩ := ko_o H
  obtain ⟨v28, h29, hc30, H⟩ := bd_o H
  refine x_callVi (As := [.int 22]) (q := (RX7, TX7, 6)) dX5_fact_6 mi_X7_isWord lk_X5_138 im_X7_isWord se_X7_isWord rfl c131 rfl rfl (Nat.le_of_ble_eq_true rfl) (t_X7_isWord (by omega) hc30) ?_
  refine x_if_eq (tgt := 30) dX5_fact_9 (by decide) (fun c31 => ?_) (fun c31 => ?_)
  · replace H := ite_p H c31
    refine x_aload_n dX5_fact_30 rfl 0 rfl ?_
    obtain ⟨c32, H⟩ := ko_o H
    obtain ⟨a33, c34, H⟩ := kr_o H
    refine x_getR fr_X5_23 dX5_fact_31 c32 rfl c34 ?_
    refine x_bipush (v := 21) dX5_fact_34 (by decide) ?_
    obtain ⟨c116, H⟩ := ko_o H
    obtain ⟨v35, h36, hc37, H⟩ := bd_o H
    refine x_callVi (As := [.int 21]) (q := (RX7, TX7, 6)) dX5_fact_36 mi_X7_isWord lk_X5_138 im_X7_isWord se_X7_isWord rfl c116 rfl rfl (Nat.le_of_ble_eq_true rfl) (t_X7_isWord (by omega) hc37) ?_
    refine x_if_eq (tgt := 73) dX5_fact_39 (by decide) (fun c38 => ?_) (fun c38 => ?_)
    · replace H := ite_p H c38
      refine x_aload_n dX5_fact_73 rfl 0 rfl ?_
      obtain ⟨c39, H⟩ := ko_o H
      obtain ⟨a40, c41, H⟩ := kr_o H
      refine x_getR fr_X5_23 dX5_fact_74 c39 rfl c41 ?_
      refine x_bipush (v := 91) dX5_fact_77 (by decide) ?_
      obtain ⟨c98, H⟩ := ko_o H
      obtain ⟨v42, h43, hc44, H⟩ := bd_o H
      refine x_callVi (As := [.int 91]) (q := (RX7, TX7, 6)) dX5_fact_79 mi_X7_isSign lk_X5_141 im_X7_isSign se_X7_isSign rfl c98 rfl rfl (Nat.le_of_ble_eq_true rfl) (t_X7_isSign (by omega) hc44) ?_
      refine x_if_eq (tgt := 118) dX5_fact_82 (by decide) (fun c45 => ?_) (fun c45 => ?_)
      · replace H := ite_p H c45
        refine x_aload_n dX5_fact_118 rfl 0 rfl ?_
        refine x_iload_n dX5_fact_119 rfl 1 rfl ?_
        obtain ⟨c82, H⟩ := ko_o H
        obtain ⟨v46, h47, hc48, H⟩ := bd_o H
        refine x_callVi (As := [.int x1]) (q := (RX5, TX5, 5)) dX5_fact_120 mi_X5_sum lk_X5_79 im_X5_sum se_X5_sum rfl c82 rfl rfl (Nat.le_of_ble_eq_true rfl) (sccU_X5_sum (hF _ rfl) hc48) ?_
        refine x_if_ne (tgt := 128) dX5_fact_123 (by decide) (fun c49 => ?_) (fun c49 => ?_)
        · replace H := ite_m H c49
          refine x_aload_n dX5_fact_128 rfl 0 rfl ?_
          obtain ⟨c50, H⟩ := ko_o H
          obtain ⟨a51, c52, H⟩ := kr_o H
          refine x_getR fr_X5_23 dX5_fact_129 c50 rfl c52 ?_
          refine x_bipush (v := 60) dX5_fact_132 (by decide) ?_
          obtain ⟨c81, H⟩ := ko_o H
          obtain ⟨v53, h54, hc55, H⟩ := bd_o H
          refine x_callVi (As := [.int 60]) (q := (RX7, TX7, 6)) dX5_fact_134 mi_X7_isSign lk_X5_141 im_X7_isSign se_X7_isSign rfl c81 rfl rfl (Nat.le_of_ble_eq_true rfl) (t_X7_isSign (by omega) hc55) ?_
          refine x_if_ne (tgt := 177) dX5_fact_137 (by decide) (fun c56 => ?_) (fun c56 => ?_)
          · replace H := ite_m H c56
            exact t_X5_fact_177 hd hF H
          · replace H := ite_p H c56
            refine x_aload_n dX5_fact_140 rfl 0 rfl ?_
            obtain ⟨c57, H⟩ := ko_o H
            obtain ⟨a58, c59, H⟩ := kr_o H
            refine x_getR fr_X5_23 dX5_fact_141 c57 rfl c59 ?_
            refine x_bipush (v := 62) dX5_fact_144 (by decide) ?_
            obtain ⟨c80, H⟩ := ko_o H
            obtain ⟨v60, h61, hc62, H⟩ := bd_o H
            refine x_callVi (As := [.int 62]) (q := (RX7, TX7, 6)) dX5_fact_146 mi_X7_isSign lk_X5_141 im_X7_isSign se_X7_isSign rfl c80 rfl rfl (Nat.le_of_ble_eq_true rfl) (t_X7_isSign (by omega) hc62) ?_
            refine x_if_ne (tgt := 177) dX5_fact_149 (by decide) (fun c63 => ?_) (fun c63 => ?_)
            · replace H := ite_m H c63
              exact t_X5_fact_177 hd hF H
            · replace H := ite_p H c63
              refine x_aload_n dX5_fact_152 rfl 0 rfl ?_
              obtain ⟨c64, H⟩ := ko_o H
              obtain ⟨a65, c66, H⟩ := kr_o H
              refine x_getR fr_X5_23 dX5_fact_153 c64 rfl c66 ?_
              refine x_bipush (v := 61) dX5_fact_156 (by decide) ?_
              obtain ⟨c79, H⟩ := ko_o H
              obtain ⟨v67, h68, hc69, H⟩ := bd_o H
              refine x_callVi (As := [.int 61]) (q := (RX7, TX7, 6)) dX5_fact_158 mi_X7_isSign lk_X5_141 im_X7_isSign se_X7_isSign rfl c79 rfl rfl (Nat.le_of_ble_eq_true rfl) (t_X7_isSign (by omega) hc69) ?_
              refine x_if_ne (tgt := 177) dX5_fact_161 (by decide) (fun c70 => ?_) (fun c70 => ?_)
              · replace H := ite_m H c70
                exact t_X5_fact_177 hd hF H
              · replace H := ite_p H c70
                refine x_aload_n dX5_fact_164 rfl 0 rfl ?_
                refine x_iconst (v := 1) dX5_fact_165 (by decide) ?_
                refine x_aload_n dX5_fact_166 rfl 0 rfl ?_
                obtain ⟨c71, H⟩ := ko_o H
                obtain ⟨a72, c73, H⟩ := kr_o H
                refine x_getR fr_X5_23 dX5_fact_167 c71 rfl c73 ?_
                obtain ⟨c74, H⟩ := ko_o H
                refine x_getI fr_X5_60 dX5_fact_170 c74 rfl ?_
                obtain ⟨v75, h76, hc77, H⟩ := bd_o H
                refine x_callVi (As := [.int 1, .int (hI h68 a72 3)]) (q := (RX5, TX5, 5)) dX5_fact_173 mi_X5_fail lk_X5_63 im_X5_fail se_X5_fail rfl c71 rfl rfl (Nat.le_of_ble_eq_true rfl) (t_X5_fail (by omega) hc77) ?_
                obtain ⟨c78, H⟩ := chk_o H
                obtain ⟨rfl, rfl⟩ := so_1 H
                exact x_iret dX5_fact_176 rfl c78
        · replace H := ite_p H c49
          refine x_iconst (v := 0) dX5_fact_126 (by decide) ?_
          obtain ⟨rfl, rfl⟩ := so_1 H
          exact x_iret dX5_fact_127 rfl (by decide)
      · replace H := ite_m H c45
        refine x_aload_n dX5_fact_85 rfl 0 rfl ?_
        refine x_iload_n dX5_fact_86 rfl 1 rfl ?_
        obtain ⟨c97, H⟩ := ko_o H
        obtain ⟨v83, h84, hc85, H⟩ := bd_o H
        refine x_callVi (As := [.int x1]) (q := (RX5, TX5, 5)) dX5_fact_87 mi_X5_opening lk_X5_157 im_X5_opening se_X5_opening rfl c97 rfl rfl (Nat.le_of_ble_eq_true rfl) (t_X5_opening (by omega) hc85) ?_
        refine x_if_eq (tgt := 116) dX5_fact_90 (by decide) (fun c86 => ?_) (fun c86 => ?_)
        · replace H := ite_p H c86
          refine Ex.sub [] rfl ?_
          exact t_X5_fact_116 hd hF H
        · replace H := ite_m H c86
          refine x_aload_n dX5_fact_93 rfl 0 rfl ?_
          refine x_iload_n dX5_fact_94 rfl 1 rfl ?_
          refine x_iconst (v := 1) dX5_fact_95 (by decide) ?_
          refine x_iadd dX5_fact_96 ?_
          obtain ⟨c96, H⟩ := ko_o H
          obtain ⟨v87, h88, hc89, H⟩ := bd_o H
          refine x_callVi (As := [.int (x1 + 1)]) (q := (RX5, TX5, 5)) dX5_fact_97 mi_X5_test lk_X5_85 im_X5_test se_X5_test rfl c96 rfl rfl (Nat.le_of_ble_eq_true rfl) (sccU_X5_test (hF _ rfl) hc89) ?_
          refine x_if_eq (tgt := 116) dX5_fact_100 (by decide) (fun c90 => ?_) (fun c90 => ?_)
          · replace H := ite_p H c90
            refine Ex.sub [] rfl ?_
            exact t_X5_fact_116 hd hF H
          · replace H := ite_m H c90
            refine x_aload_n dX5_fact_103 rfl 0 rfl ?_
            refine x_bipush (v := 93) dX5_fact_104 (by decide) ?_
            obtain ⟨c95, H⟩ := ko_o H
            obtain ⟨v91, h92, hc93, H⟩ := bd_o H
            refine x_callVi (As := [.int 93]) (q := (RX5, TX5, 5)) dX5_fact_106 mi_X5_sign lk_X5_53 im_X5_sign se_X5_sign rfl c95 rfl rfl (Nat.le_of_ble_eq_true rfl) (t_X5_sign (by omega) hc93) ?_
            refine x_if_eq (tgt := 116) dX5_fact_109 (by decide) (fun c94 => ?_) (fun c94 => ?_)
            · replace H := ite_p H c94
              refine Ex.sub [] rfl ?_
              exact t_X5_fact_116 hd hF H
            · replace H := ite_m H c94
              refine x_iconst (v := 1) dX5_fact_112 (by decide) ?_
              refine x_goto (tgt := 117) dX5_fact_113 (by decide) ?_
              refine Ex.sub [] rfl ?_
              exact t_X5_fact_117 hd hF H
    · replace H := ite_m H c38
      refine x_aload_n dX5_fact_42 rfl 0 rfl ?_
      refine x_iload_n dX5_fact_43 rfl 1 rfl ?_
      obtain ⟨c115, H⟩ := ko_o H
      obtain ⟨v99, h100, hc101, H⟩ := bd_o H
      refine x_callVi (As := [.int x1]) (q := (RX5, TX5, 5)) dX5_fact_44 mi_X5_opening lk_X5_157 im_X5_opening se_X5_opening rfl c115 rfl rfl (Nat.le_of_ble_eq_true rfl) (t_X5_opening (by omega) hc101) ?_
      refine x_if_eq (tgt := 60) dX5_fact_47 (by decide) (fun c102 => ?_) (fun c102 => ?_)
      · replace H := ite_p H c102
        refine Ex.sub [] rfl ?_
        exact t_X5_fact_60 hd hF H
      · replace H := ite_m H c102
        refine x_aload_n dX5_fact_50 rfl 0 rfl ?_
        refine x_iload_n dX5_fact_51 rfl 1 rfl ?_
        refine x_iconst (v := 1) dX5_fact_52 (by decide) ?_
        refine x_iadd dX5_fact_53 ?_
        obtain ⟨c114, H⟩ := ko_o H
        obtain ⟨v103, h104, hc105, H⟩ := bd_o H
        refine x_callVi (As := [.int (x1 + 1)]) (q := (RX5, TX5, 5)) dX5_fact_54 mi_X5_fact lk_X5_154 im_X5_fact se_X5_fact rfl c114 rfl rfl (Nat.le_of_ble_eq_true rfl) (sccU_X5_fact (hF _ rfl) hc105) ?_
        refine x_if_ne (tgt := 62) dX5_fact_57 (by decide) (fun c106 => ?_) (fun c106 => ?_)
        · replace H := ite_m H c106
          refine x_aload_n dX5_fact_62 rfl 0 rfl ?_
          obtain ⟨c107, H⟩ := ko_o H
          obtain ⟨a108, c109, H⟩ := kr_o H
          refine x_getR fr_X5_30 dX5_fact_63 c107 rfl c109 ?_
          refine x_bipush (v := 21) dX5_fact_66 (by decide) ?_
          obtain ⟨c113, H⟩ := ko_o H
          obtain ⟨v110, h111, hc112, H⟩ := bd_o H
          refine x_callVv (As := [.int 21]) (q := (RX4, TX4, 10)) dX5_fact_68 mi_X4_addOperation lk_X5_151 im_X4_addOperation se_X4_addOperation rfl c113 rfl rfl (Nat.le_of_ble_eq_true rfl) (t_X4_addOperation (by omega) hc112) ?_
          refine x_iconst (v := 1) dX5_fact_71 (by decide) ?_
          obtain ⟨rfl, rfl⟩ := so_1 H
          exact x_iret dX5_fact_72 rfl (by decide)
        · replace H := ite_p H c106
          refine Ex.sub [] rfl ?_
          exact t_X5_fact_60 hd hF H
  · replace H := ite_m H c31
    refine x_aload_n dX5_fact_12 rfl 0 rfl ?_
    obtain ⟨c117, H⟩ := ko_o H
    obtain ⟨a118, c119, H⟩ := kr_o H
    refine x_getR fr_X5_23 dX5_fact_13 c117 rfl c119 ?_
    obtain ⟨c130, H⟩ := ko_o H
    obtain ⟨v120, h121, hc122, H⟩ := bd_o H
    refine x_callVv (As := []) (q := (RX7, TX7, 6)) dX5_fact_16 mi_X7_next lk_X5_97 im_X7_next se_X7_next rfl c130 rfl rfl (Nat.le_of_ble_eq_true rfl) (t_X7_next (by omega) hc122) ?_
    refine x_aload_n dX5_fact_19 rfl 0 rfl ?_
    obtain ⟨c123, H⟩ := ko_o H
    obtain ⟨a124, c125, H⟩ := kr_o H
    refine x_getR fr_X5_30 dX5_fact_20 c123 rfl c125 ?_
    refine x_bipush (v := 22) dX5_fact_23 (by decide) ?_
    obtain ⟨c129, H⟩ := ko_o H
    obtain ⟨v126, h127, hc128, H⟩ := bd_o H
    refine x_callVv (As := [.int 22]) (q := (RX4, TX4, 10)) dX5_fact_25 mi_X4_addOperation lk_X5_151 im_X4_addOperation se_X4_addOperation rfl c129 rfl rfl (Nat.le_of_ble_eq_true rfl) (t_X4_addOperation (by omega) hc128) ?_
    refine x_iconst (v := 1) dX5_fact_28 (by decide) ?_
    obtain ⟨rfl, rfl⟩ := so_1 H
    exact x_iret dX5_fact_29 rfl (by decide)
def f_X5_sum_43 (F : Nat → Nat → Int32 → aH → Option (Int32 × aH)) (k12 : Nat → Int32 → Int32 → aH → Option (Int32 × aH)) (x0 : Nat) (x1 : Int32) (x2 : Int32) (h : aH) : Option (Int32 × aH) :=
  ko h x0 5 <|
  kr (hR h x0 2) fun a2 =>
  ko h a2 7 <|
  nm (hI h a2 5) fun (v5 : Int32) =>
  kr (hR h x0 2) fun a6 =>
  ko h a6 7 <|
  bd (f_X7_next a6 h) fun _ h9 =>
  ko h9 x0 5 <|
  bd (F 4 x0 x1 h9) fun v11 h12 =>
  if v11 = 0 then
    some (0, h12)
  else
    ko h12 x0 5 <|
    kr (hR h12 x0 3) fun a16 =>
    ko h12 a16 4 <|
    bd (f_X4_addOperation a16 v5 h12) fun _ h19 =>
    nm (x2 + 1) fun (v21 : Int32) =>
    k12 x0 x1 v21 h19
set_option maxRecDepth 100000 in
set_option maxHeartbeats 4000000 in
theorem t_X5_sum_43 {Γ : gS} {d : Nat} (hd : 8 ≤ d) {F : Nat → Nat → Int32 → aH → Option (Int32 × aH)} (hF : ∀ e, d = e + 1 → SCCP Γ F e) {k12 : Nat → Int32 → Int32 → aH → Option (Int32 × aH)} (hk12 : ∀ {x0 : Nat} {x1 : Int32} {x2 : Int32} {h : aH} {r : Int32} {h' : aH}, k12 x0 x1 x2 h = some (r, h') → Ex Γ gX5_sum d 12 [(0, .ref x0), (1, .int x1), (2, .int x2)] [] h (some (.int r)) h') {x0 : Nat} {x1 : Int32} {x2 : Int32} {h : aH} {r : Int32} {h' : aH} (H : f_X5_sum_43 F k12 x0 x1 x2 h = some (r, h')) : Ex Γ gX5_sum d 43 [(0, .ref x0), (1, .int x1), (2, .int x2)] [] h (some (.int r)) h' := by
  unfold f_X5_sum_43 at H
  obtain ⟨d, rfl⟩ : ∃ e, d = e + 1 := ⟨d - 1, by omega⟩
  refine x_aload_n dX5_sum_43 rfl 0 rfl ?_
  obtain ⟨c1, H⟩ := ko_o H
  obtain ⟨a2, c3, H⟩ := kr_o H
  refine x_getR fr_X5_23 dX5_sum_44 c1 rfl c3 ?_
  obtain ⟨c4, H⟩ := ko_o H
  refine x_getI fr_X5_70 dX5_sum_47 c4 rfl ?_
  obtain ⟨v5, ev5, H⟩ := nm_o H
  refine x_istore_n (lv' := [(3, .int v5), (0, .ref x0), (1, .int x1), (2, .int x2)]) dX5_sum_50 rfl (by decide) ev5 rfl ?_
  refine x_aload_n dX5_sum_51 rfl 1 rfl ?_
  obtain ⟨a6, c7, H⟩ := kr_o H
  refine x_getR fr_X5_23 dX5_sum_52 c1 rfl c7 ?_
  obtain ⟨c24, H⟩ := ko_o H
  obtain ⟨v8, h9, hc10, H⟩ := bd_o H
  refine x_callVv (As := []) (q := (RX7, TX7, 6)) dX5_sum_55 mi_X7_next lk_X5_97 im_X7_next se_X7_next rfl c24 rfl rfl (Nat.le_of_ble_eq_true rfl) (t_X7_next (by omega) hc10) ?_
  refine x_aload_n dX5_sum_58 rfl 1 rfl ?_
  refine x_iload_n dX5_sum_59 rfl 2 rfl ?_
  obtain ⟨c23, H⟩ := ko_o H
  obtain ⟨v11, h12, hc13, H⟩ := bd_o H
  refine x_callVi (As := [.int x1]) (q := (RX5, TX5, 5)) dX5_sum_60 mi_X5_product lk_X5_160 im_X5_product se_X5_product rfl c23 rfl rfl (Nat.le_of_ble_eq_true rfl) (sccU_X5_product (hF _ rfl) hc13) ?_
  refine x_if_ne (tgt := 68) dX5_sum_63 (by decide) (fun c14 => ?_) (fun c14 => ?_)
  · replace H := ite_m H c14
    refine x_aload_n dX5_sum_68 rfl 1 rfl ?_
    obtain ⟨c15, H⟩ := ko_o H
    obtain ⟨a16, c17, H⟩ := kr_o H
    refine x_getR fr_X5_30 dX5_sum_69 c15 rfl c17 ?_
    refine x_iload_n dX5_sum_72 rfl 0 rfl ?_
    obtain ⟨c22, H⟩ := ko_o H
    obtain ⟨v18, h19, hc20, H⟩ := bd_o H
    refine x_callVv (As := [.int v5]) (q := (RX4, TX4, 10)) dX5_sum_73 mi_X4_addOperation lk_X5_151 im_X4_addOperation se_X4_addOperation rfl c22 rfl rfl (Nat.le_of_ble_eq_true rfl) (t_X4_addOperation (by omega) hc20) ?_
    obtain ⟨v21, ev21, H⟩ := nm_o H
    refine x_iinc (v := v21) (lv' := [(2, .int v21), (3, .int v5), (0, .ref x0), (1, .int x1)]) dX5_sum_76 3 rfl (by decide) ev21 rfl ?_
    refine x_goto (tgt := 12) dX5_sum_79 (by decide) ?_
    refine Ex.sub [2, 3, 0] rfl ?_
    exact hk12 H
  · replace H := ite_p H c14
    refine x_iconst (v := 0) dX5_sum_66 (by decide) ?_
    obtain ⟨rfl, rfl⟩ := so_1 H
    exact x_iret dX5_sum_67 rfl (by decide)
def f_X5_sum_82 (F : Nat → Nat → Int32 → aH → Option (Int32 × aH)) (h : aH) : Option (Int32 × aH) :=
  some (1, h)
set_option maxRecDepth 100000 in
set_option maxHeartbeats 4000000 in
theorem t_X5_sum_82 {Γ : gS} {d : Nat} (hd : 8 ≤ d) {F : Nat → Nat → Int32 → aH → Option (Int32 × aH)} (hF : ∀ e, d = e + 1 → SCCP Γ F e) {h : aH} {r : Int32} {h' : aH} (H : f_X5_sum_82 F h = some (r, h')) : Ex Γ gX5_sum d 82 [] [] h (some (.int r)) h' := by
  unfold f_X5_sum_82 at H
  obtain ⟨d, rfl⟩ : ∃ e, d = e + 1 := ⟨d - 1, by omega⟩
  refine x_iconst (v := 1) dX5_sum_82 (by decide) ?_
  obtain ⟨rfl, rfl⟩ := so_1 H
  exact x_iret dX5_sum_83 rfl (by decide)
def b_X5_sum_12 (F : Nat → Nat → Int32 → aH → Option (Int32 × aH)) (k12 : Nat → Int32 → Int32 → aH → Option (Int32 × aH)) (x0 : Nat) (x1 : Int32) (x2 : Int32) (h : aH) : Option (Int32 × aH) :=
  if 1600 ≤ x2 then
    f_X5_sum_82 F h
  else
    ko h x0 5 <|
    kr (hR h x0 2) fun a27 =>
    ko h a27 7 <|
    bd (f_X7_isSign a27 43 h) fun v29 h30 =>
    if v29 = 0 then
      ko h30 x0 5 <|
      kr (hR h30 x0 2) fun a34 =>
      ko h30 a34 7 <|
      bd (f_X7_isSign a34 45 h30) fun v36 h37 =>
      if v36 = 0 then
        f_X5_sum_82 F h37
      else
        f_X5_sum_43 F k12 x0 x1 x2 h37
    else
      f_X5_sum_43 F k12 x0 x1 x2 h30
set_option maxRecDepth 100000 in
set_option maxHeartbeats 4000000 in
theorem tb_X5_sum_12 {Γ : gS} {d : Nat} (hd : 8 ≤ d) {F : Nat → Nat → Int32 → aH → Option (Int32 × aH)} (hF : ∀ e, d = e + 1 → SCCP Γ F e) {k12 : Nat → Int32 → Int32 → aH → Option (Int32 × aH)} (hk12 : ∀ {x0 : Nat} {x1 : Int32} {x2 : Int32} {h : aH} {r : Int32} {h' : aH}, k12 x0 x1 x2 h = some (r, h') → Ex Γ gX5_sum d 12 [(0, .ref x0), (1, .int x1), (2, .int x2)] [] h (some (.int r)) h') {x0 : Nat} {x1 : Int32} {x2 : Int32} {h : aH} {r : Int32} {h' : aH} (H : b_X5_sum_12 F k12 x0 x1 x2 h = some (r, h')) : Ex Γ gX5_sum d 12 [(0, .ref x0), (1, .int x1), (2, .int x2)] [] h (some (.int r)) h' := by
  unfold b_X5_sum_12 at H
  obtain ⟨d, rfl⟩ : ∃ e, d = e + 1 := ⟨d - 1, by omega⟩
  refine x_iload_n dX5_sum_12 rfl 2 rfl ?_
  refine x_sipush (v := 1600) dX5_sum_13 (by decide) ?_
  refine x_icmp_ge (tgt := 82) dX5_sum_16 (by decide) (fun c25 => ?_) (fun c25 => ?_)
  · replace H := ite_p H c25
    refine Ex.sub [] rfl ?_
    exact t_X5_sum_82 hd hF H
  · replace H := ite_m H c25
    refine x_aload_n dX5_sum_19 rfl 0 rfl ?_
    obtain ⟨c26, H⟩ := ko_o H
    obtain ⟨a27, c28, H⟩ := kr_o H
    refine x_getR fr_X5_23 dX5_sum_20 c26 rfl c28 ?_
    refine x_bipush (v := 43) dX5_sum_23 (by decide) ?_
    obtain ⟨c41, H⟩ := ko_o H
    obtain ⟨v29, h30, hc31, H⟩ := bd_o H
    refine x_callVi (As := [.int 43]) (q := (RX7, TX7, 6)) dX5_sum_25 mi_X7_isSign lk_X5_141 im_X7_isSign se_X7_isSign rfl c41 rfl rfl (Nat.le_of_ble_eq_true rfl) (t_X7_isSign (by omega) hc31) ?_
    refine x_if_ne (tgt := 43) dX5_sum_28 (by decide) (fun c32 => ?_) (fun c32 => ?_)
    · replace H := ite_m H c32
      exact t_X5_sum_43 hd hF hk12 H
    · replace H := ite_p H c32
      refine x_aload_n dX5_sum_31 rfl 0 rfl ?_
      obtain ⟨c33, H⟩ := ko_o H
      obtain ⟨a34, c35, H⟩ := kr_o H
      refine x_getR fr_X5_23 dX5_sum_32 c33 rfl c35 ?_
      refine x_bipush (v := 45) dX5_sum_35 (by decide) ?_
      obtain ⟨c40, H⟩ := ko_o H
      obtain ⟨v36, h37, hc38, H⟩ := bd_o H
      refine x_callVi (As := [.int 45]) (q := (RX7, TX7, 6)) dX5_sum_37 mi_X7_isSign lk_X5_141 im_X7_isSign se_X7_isSign rfl c40 rfl rfl (Nat.le_of_ble_eq_true rfl) (t_X7_isSign (by omega) hc38) ?_
      refine x_if_eq (tgt := 82) dX5_sum_40 (by decide) (fun c39 => ?_) (fun c39 => ?_)
      · replace H := ite_p H c39
        refine Ex.sub [] rfl ?_
        exact t_X5_sum_82 hd hF H
      · replace H := ite_m H c39
        exact t_X5_sum_43 hd hF hk12 H
def f_X5_sum_12 (F : Nat → Nat → Int32 → aH → Option (Int32 × aH)) : Nat → Nat → Int32 → Int32 → aH → Option (Int32 × aH)
  | 0 => fun _ _ _ _ => none
  | n + 1 => b_X5_sum_12 F (f_X5_sum_12 F n)
set_option maxRecDepth 100000 in
set_option maxHeartbeats 4000000 in
theorem t_X5_sum_12 {Γ : gS} {d : Nat} (hd : 8 ≤ d) {F : Nat → Nat → Int32 → aH → Option (Int32 × aH)} (hF : ∀ e, d = e + 1 → SCCP Γ F e) (n : Nat) : ∀ {x0 : Nat} {x1 : Int32} {x2 : Int32} {h : aH} {r : Int32} {h' : aH}, f_X5_sum_12 F n x0 x1 x2 h = some (r, h') → Ex Γ gX5_sum d 12 [(0, .ref x0), (1, .int x1), (2, .int x2)] [] h (some (.int r)) h' := by
  induction n with
  | zero => intro x0 x1 x2 h r h' H; cases H
  | succ n ih => intro x0 x1 x2 h r h' H; exact tb_X5_sum_12 hd hF ih H
def f_X5_sum (F : Nat → Nat → Int32 → aH → Option (Int32 × aH)) (x0 : Nat) (x1 : Int32) (h : aH) : Option (Int32 × aH) :=
  ko h x0 5 <|
  bd (F 4 x0 x1 h) fun v42 h43 =>
  if v42 = 0 then
    some (0, h43)
  else
    f_X5_sum_12 F FU x0 x1 0 h43
set_option maxRecDepth 100000 in
set_option maxHeartbeats 4000000 in
theorem t_X5_sum {Γ : gS} {d : Nat} (hd : 8 ≤ d) {F : Nat → Nat → Int32 → aH → Option (Int32 × aH)} (hF : ∀ e, d = e + 1 → SCCP Γ F e) {x0 : Nat} {x1 : Int32} {h : aH} {r : Int32} {h' : aH} (H : f_X5_sum F x0 x1 h = some (r, h')) : Mx Γ gX5_sum d [.ref x0, .int x1] h (some (.int r)) h' := by
  refine Mx.of (by decide +kernel) (Nat.le_of_ble_eq_true rfl) ?_
  unfold f_X5_sum at H
  show Ex Γ gX5_sum d 0 [(0, .ref x0), (1, .int x1)] [] h (some (.int r)) h'
  obtain ⟨d, rfl⟩ : ∃ e, d = e + 1 := ⟨d - 1, by omega⟩
  refine x_aload_n dX5_sum_0 rfl 0 rfl ?_
  refine x_iload_n dX5_sum_1 rfl 1 rfl ?_
  obtain ⟨c46, H⟩ := ko_o H
  obtain ⟨v42, h43, hc44, H⟩ := bd_o H
  refine x_callVi (As := [.int x1]) (q := (RX5, TX5, 5)) dX5_sum_2 mi_X5_product lk_X5_160 im_X5_product se_X5_product rfl c46 rfl rfl (Nat.le_of_ble_eq_true rfl) (sccU_X5_product (hF _ rfl) hc44) ?_
  refine x_if_ne (tgt := 10) dX5_sum_5 (by decide) (fun c45 => ?_) (fun c45 => ?_)
  · replace H := ite_m H c45
    refine x_iconst (v := 0) dX5_sum_10 (by decide) ?_
    refine x_istore_n (lv' := [(2, .int 0), (0, .ref x0), (1, .int x1)]) dX5_sum_11 rfl (by decide) rfl rfl ?_
    refine Ex.sub [1, 2, 0] rfl ?_
    exact t_X5_sum_12 hd hF FU H
  · replace H := ite_p H c45
    refine x_iconst (v := 0) dX5_sum_8 (by decide) ?_
    obtain ⟨rfl, rfl⟩ := so_1 H
    exact x_iret dX5_sum_9 rfl (by decide)
def f_X5_product_43 (F : Nat → Nat → Int32 → aH → Option (Int32 × aH)) (k12 : Nat → Int32 → Int32 → aH → Option (Int32 × aH)) (x0 : Nat) (x1 : Int32) (x2 : Int32) (h : aH) : Option (Int32 × aH) :=
  ko h x0 5 <|
  kr (hR h x0 2) fun a2 =>
  ko h a2 7 <|
  nm (hI h a2 5) fun (v5 : Int32) =>
  kr (hR h x0 2) fun a6 =>
  ko h a6 7 <|
  bd (f_X7_next a6 h) fun _ h9 =>
  ko h9 x0 5 <|
  bd (F 5 x0 x1 h9) fun v11 h12 =>
  if v11 = 0 then
    some (0, h12)
  else
    ko h12 x0 5 <|
    kr (hR h12 x0 3) fun a16 =>
    ko h12 a16 4 <|
    bd (f_X4_addOperation a16 v5 h12) fun _ h19 =>
    nm (x2 + 1) fun (v21 : Int32) =>
    k12 x0 x1 v21 h19
set_option maxRecDepth 100000 in
set_option maxHeartbeats 4000000 in
theorem t_X5_product_43 {Γ : gS} {d : Nat} (hd : 8 ≤ d) {F : Nat → Nat → Int32 → aH → Option (Int32 × aH)} (hF : ∀ e, d = e + 1 → SCCP Γ F e) {k12 : Nat → Int32 → Int32 → aH → Option (Int32 × aH)} (hk12 : ∀ {x0 : Nat} {x1 : Int32} {x2 : Int32} {h : aH} {r : Int32} {h' : aH}, k12 x0 x1 x2 h = some (r, h') → Ex Γ gX5_product d 12 [(0, .ref x0), (1, .int x1), (2, .int x2)] [] h (some (.int r)) h') {x0 : Nat} {x1 : Int32} {x2 : Int32} {h : aH} {r : Int32} {h' : aH} (H : f_X5_product_43 F k12 x0 x1 x2 h = some (r, h')) : Ex Γ gX5_product d 43 [(0, .ref x0), (1, .int x1), (2, .int x2)] [] h (some (.int r)) h' := by
  unfold f_X5_product_43 at H
  obtain ⟨d, rfl⟩ : ∃ e, d = e + 1 := ⟨d - 1, by omega⟩
  refine x_aload_n dX5_product_43 rfl 0 rfl ?_
  obtain ⟨c1, H⟩ := ko_o H
  obtain ⟨a2, c3, H⟩ := kr_o H
  refine x_getR fr_X5_23 dX5_product_44 c1 rfl c3 ?_
  obtain ⟨c4, H⟩ := ko_o H
  refine x_getI fr_X5_70 dX5_product_47 c4 rfl ?_
  obtain ⟨v5, ev5, H⟩ := nm_o H
  refine x_istore_n (lv' := [(3, .int v5), (0, .ref x0), (1, .int x1), (2, .int x2)]) dX5_product_50 rfl (by decide) ev5 rfl ?_
  refine x_aload_n dX5_product_51 rfl 1 rfl ?_
  obtain ⟨a6, c7, H⟩ := kr_o H
  refine x_getR fr_X5_23 dX5_product_52 c1 rfl c7 ?_
  obtain ⟨c24, H⟩ := ko_o H
  obtain ⟨v8, h9, hc10, H⟩ := bd_o H
  refine x_callVv (As := []) (q := (RX7, TX7, 6)) dX5_product_55 mi_X7_next lk_X5_97 im_X7_next se_X7_next rfl c24 rfl rfl (Nat.le_of_ble_eq_true rfl) (t_X7_next (by omega) hc10) ?_
  refine x_aload_n dX5_product_58 rfl 1 rfl ?_
  refine x_iload_n dX5_product_59 rfl 2 rfl ?_
  obtain ⟨c23, H⟩ := ko_o H
  obtain ⟨v11, h12, hc13, H⟩ := bd_o H
  refine x_callVi (As := [.int x1]) (q := (RX5, TX5, 5)) dX5_product_60 mi_X5_part lk_X5_163 im_X5_part se_X5_part rfl c23 rfl rfl (Nat.le_of_ble_eq_true rfl) (sccU_X5_part (hF _ rfl) hc13) ?_
  refine x_if_ne (tgt := 68) dX5_product_63 (by decide) (fun c14 => ?_) (fun c14 => ?_)
  · replace H := ite_m H c14
    refine x_aload_n dX5_product_68 rfl 1 rfl ?_
    obtain ⟨c15, H⟩ := ko_o H
    obtain ⟨a16, c17, H⟩ := kr_o H
    refine x_getR fr_X5_30 dX5_product_69 c15 rfl c17 ?_
    refine x_iload_n dX5_product_72 rfl 0 rfl ?_
    obtain ⟨c22, H⟩ := ko_o H
    obtain ⟨v18, h19, hc20, H⟩ := bd_o H
    refine x_callVv (As := [.int v5]) (q := (RX4, TX4, 10)) dX5_product_73 mi_X4_addOperation lk_X5_151 im_X4_addOperation se_X4_addOperation rfl c22 rfl rfl (Nat.le_of_ble_eq_true rfl) (t_X4_addOperation (by omega) hc20) ?_
    obtain ⟨v21, ev21, H⟩ := nm_o H
    refine x_iinc (v := v21) (lv' := [(2, .int v21), (3, .int v5), (0, .ref x0), (1, .int x1)]) dX5_product_76 3 rfl (by decide) ev21 rfl ?_
    refine x_goto (tgt := 12) dX5_product_79 (by decide) ?_
    refine Ex.sub [2, 3, 0] rfl ?_
    exact hk12 H
  · replace H := ite_p H c14
    refine x_iconst (v := 0) dX5_product_66 (by decide) ?_
    obtain ⟨rfl, rfl⟩ := so_1 H
    exact x_iret dX5_product_67 rfl (by decide)
def f_X5_product_82 (F : Nat → Nat → Int32 → aH → Option (Int32 × aH)) (h : aH) : Option (Int32 × aH) :=
  some (1, h)
set_option maxRecDepth 100000 in
set_option maxHeartbeats 4000000 in
theorem t_X5_product_82 {Γ : gS} {d : Nat} (hd : 8 ≤ d) {F : Nat → Nat → Int32 → aH → Option (Int32 × aH)} (hF : ∀ e, d = e + 1 → SCCP Γ F e) {h : aH} {r : Int32} {h' : aH} (H : f_X5_product_82 F h = some (r, h')) : Ex Γ gX5_product d 82 [] [] h (some (.int r)) h' := by
  unfold f_X5_product_82 at H
  obtain ⟨d, rfl⟩ : ∃ e, d = e + 1 := ⟨d - 1, by omega⟩
  refine x_iconst (v := 1) dX5_product_82 (by decide) ?_
  obtain ⟨rfl, rfl⟩ := so_1 H
  exact x_iret dX5_product_83 rfl (by decide)
def b_X5_product_12 (F : Nat → Nat → Int32 → aH → Option (Int32 × aH)) (k12 : Nat → Int32 → Int32 → aH → Option (Int32 × aH)) (x0 : Nat) (x1 : Int32) (x2 : Int32) (h : aH) : Option (Int32 × aH) :=
  if 1600 ≤ x2 then
    f_X5_product_82 F h
  else
    ko h x0 5 <|
    kr (hR h x0 2) fun a27 =>
    ko h a27 7 <|
    bd (f_X7_isSign a27 42 h) fun v29 h30 =>
    if v29 = 0 then
      ko h30 x0 5 <|
      kr (hR h30 x0 2) fun a34 =>
      ko h30 a34 7 <|
      bd (f_X7_isSign a34 47 h30) fun v36 h37 =>
      if v36 = 0 then
        f_X5_product_82 F h37
      else
        f_X5_product_43 F k12 x0 x1 x2 h37
    else
      f_X5_product_43 F k12 x0 x1 x2 h30
set_option maxRecDepth 100000 in
set_option maxHeartbeats 4000000 in
theorem tb_X5_product_12 {Γ : gS} {d : Nat} (hd : 8 ≤ d) {F : Nat → Nat → Int32 → aH → Option (Int32 × aH)} (hF : ∀ e, d = e + 1 → SCCP Γ F e) {k12 : Nat → Int32 → Int32 → aH → Option (Int32 × aH)} (hk12 : ∀ {x0 : Nat} {x1 : Int32} {x2 : Int32} {h : aH} {r : Int32} {h' : aH}, k12 x0 x1 x2 h = some (r, h') → Ex Γ gX5_product d 12 [(0, .ref x0), (1, .int x1), (2, .int x2)] [] h (some (.int r)) h') {x0 : Nat} {x1 : Int32} {x2 : Int32} {h : aH} {r : Int32} {h' : aH} (H : b_X5_product_12 F k12 x0 x1 x2 h = some (r, h')) : Ex Γ gX5_product d 12 [(0, .ref x0), (1, .int x1), (2, .int x2)] [] h (some (.int r)) h' := by
  unfold b_X5_product_12 at H
  obtain ⟨d, rfl⟩ : ∃ e, d = e + 1 := ⟨d - 1, by omega⟩
  refine x_iload_n dX5_product_12 rfl 2 rfl ?_
  refine x_sipush (v := 1600) dX5_product_13 (by decide) ?_
  refine x_icmp_ge (tgt := 82) dX5_product_16 (by decide) (fun c25 => ?_) (fun c25 => ?_)
  · replace H := ite_p H c25
    refine Ex.sub [] rfl ?_
    exact t_X5_product_82 hd hF H
  · replace H := ite_m H c25
    refine x_aload_n dX5_product_19 rfl 0 rfl ?_
    obtain ⟨c26, H⟩ := ko_o H
    obtain ⟨a27, c28, H⟩ := kr_o H
    refine x_getR fr_X5_23 dX5_product_20 c26 rfl c28 ?_
    refine x_bipush (v := 42) dX5_product_23 (by decide) ?_
    obtain ⟨c41, H⟩ := ko_o H
    obtain ⟨v29, h30, hc31, H⟩ := bd_o H
    refine x_callVi (As := [.int 42]) (q := (RX7, TX7, 6)) dX5_product_25 mi_X7_isSign lk_X5_141 im_X7_isSign se_X7_isSign rfl c41 rfl rfl (Nat.le_of_ble_eq_true rfl) (t_X7_isSign (by omega) hc31) ?_
    refine x_if_ne (tgt := 43) dX5_product_28 (by decide) (fun c32 => ?_) (fun c32 => ?_)
    · replace H := ite_m H c32
      exact t_X5_product_43 hd hF hk12 H
    · replace H := ite_p H c32
      refine x_aload_n dX5_product_31 rfl 0 rfl ?_
      obtain ⟨c33, H⟩ := ko_o H
      obtain ⟨a34, c35, H⟩ := kr_o H
      refine x_getR fr_X5_23 dX5_product_32 c33 rfl c35 ?_
      refine x_bipush (v := 47) dX5_product_35 (by decide) ?_
      obtain ⟨c40, H⟩ := ko_o H
      obtain ⟨v36, h37, hc38, H⟩ := bd_o H
      refine x_callVi (As := [.int 47]) (q := (RX7, TX7, 6)) dX5_product_37 mi_X7_isSign lk_X5_141 im_X7_isSign se_X7_isSign rfl c40 rfl rfl (Nat.le_of_ble_eq_true rfl) (t_X7_isSign (by omega) hc38) ?_
      refine x_if_eq (tgt := 82) dX5_product_40 (by decide) (fun c39 => ?_) (fun c39 => ?_)
      · replace H := ite_p H c39
        refine Ex.sub [] rfl ?_
        exact t_X5_product_82 hd hF H
      · replace H := ite_m H c39
        exact t_X5_product_43 hd hF hk12 H
def f_X5_product_12 (F : Nat → Nat → Int32 → aH → Option (Int32 × aH)) : Nat → Nat → Int32 → Int32 → aH → Option (Int32 × aH)
  | 0 => fun _ _ _ _ => none
  | n + 1 => b_X5_product_12 F (f_X5_product_12 F n)
set_option maxRecDepth 100000 in
set_option maxHeartbeats 4000000 in
theorem t_X5_product_12 {Γ : gS} {d : Nat} (hd : 8 ≤ d) {F : Nat → Nat → Int32 → aH → Option (Int32 × aH)} (hF : ∀ e, d = e + 1 → SCCP Γ F e) (n : Nat) : ∀ {x0 : Nat} {x1 : Int32} {x2 : Int32} {h : aH} {r : Int32} {h' : aH}, f_X5_product_12 F n x0 x1 x2 h = some (r, h') → Ex Γ gX5_product d 12 [(0, .ref x0), (1, .int x1), (2, .int x2)] [] h (some (.int r)) h' := by
  induction n with
  | zero => intro x0 x1 x2 h r h' H; cases H
  | succ n ih => intro x0 x1 x2 h r h' H; exact tb_X5_product_12 hd hF ih H
def f_X5_product (F : Nat → Nat → Int32 → aH → Option (Int32 × aH)) (x0 : Nat) (x1 : Int32) (h : aH) : Option (Int32 × aH) :=
  ko h x0 5 <|
  bd (F 5 x0 x1 h) fun v42 h43 =>
  if v42 = 0 then
    some (0, h43)
  else
    f_X5_product_12 F FU x0 x1 0 h43
set_option maxRecDepth 100000 in
set_option maxHeartbeats 4000000 in
theorem t_X5_product {Γ : gS} {d : Nat} (hd : 8 ≤ d) {F : Nat → Nat → Int32 → aH → Option (Int32 × aH)} (hF : ∀ e, d = e + 1 → SCCP Γ F e) {x0 : Nat} {x1 : Int32} {h : aH} {r : Int32} {h' : aH} (H : f_X5_product F x0 x1 h = some (r, h')) : Mx Γ gX5_product d [.ref x0, .int x1] h (some (.int r)) h' := by
  refine Mx.of (by decide +kernel) (Nat.le_of_ble_eq_true rfl) ?_
  unfold f_X5_product at H
  show Ex Γ gX5_product d 0 [(0, .ref x0), (1, .int x1)] [] h (some (.int r)) h'
  obtain ⟨d, rfl⟩ : ∃ e, d = e + 1 := ⟨d - 1, by omega⟩
  refine x_aload_n dX5_product_0 rfl 0 rfl ?_
  refine x_iload_n dX5_product_1 rfl 1 rfl ?_
  obtain ⟨c46, H⟩ := ko_o H
  obtain ⟨v42, h43, hc44, H⟩ := bd_o H
  refine x_callVi (As := [.int x1]) (q := (RX5, TX5, 5)) dX5_product_2 mi_X5_part lk_X5_163 im_X5_part se_X5_part rfl c46 rfl rfl (Nat.le_of_ble_eq_true rfl) (sccU_X5_part (hF _ rfl) hc44) ?_
  refine x_if_ne (tgt := 10) dX5_product_5 (by decide) (fun c45 => ?_) (fun c45 => ?_)
  · replace H := ite_m H c45
    refine x_iconst (v := 0) dX5_product_10 (by decide) ?_
    refine x_istore_n (lv' := [(2, .int 0), (0, .ref x0), (1, .int x1)]) dX5_product_11 rfl (by decide) rfl rfl ?_
    refine Ex.sub [1, 2, 0] rfl ?_
    exact t_X5_product_12 hd hF FU H
  · replace H := ite_p H c45
    refine x_iconst (v := 0) dX5_product_8 (by decide) ?_
    obtain ⟨rfl, rfl⟩ := so_1 H
    exact x_iret dX5_product_9 rfl (by decide)
def f_X5_part_91 (F : Nat → Nat → Int32 → aH → Option (Int32 × aH)) (s0 : Int32) (h : aH) : Option (Int32 × aH) :=
  chk (narrow .boolean (.int s0) = .int s0) <|
  some (s0, h)
set_option maxRecDepth 100000 in
set_option maxHeartbeats 4000000 in
theorem t_X5_part_91 {Γ : gS} {d : Nat} (hd : 9 ≤ d) {F : Nat → Nat → Int32 → aH → Option (Int32 × aH)} (hF : ∀ e, d = e + 1 → SCCP Γ F e) {s0 : Int32} {h : aH} {r : Int32} {h' : aH} (H : f_X5_part_91 F s0 h = some (r, h')) : Ex Γ gX5_part d 91 [] [.int s0] h (some (.int r)) h' := by
  unfold f_X5_part_91 at H
  obtain ⟨d, rfl⟩ : ∃ e, d = e + 1 := ⟨d - 1, by omega⟩
  obtain ⟨c1, H⟩ := chk_o H
  obtain ⟨rfl, rfl⟩ := so_1 H
  exact x_iret dX5_part_91 rfl c1
def f_X5_part_90 (F : Nat → Nat → Int32 → aH → Option (Int32 × aH)) (h : aH) : Option (Int32 × aH) :=
  f_X5_part_91 F 0 h
set_option maxRecDepth 100000 in
set_option maxHeartbeats 4000000 in
theorem t_X5_part_90 {Γ : gS} {d : Nat} (hd : 9 ≤ d) {F : Nat → Nat → Int32 → aH → Option (Int32 × aH)} (hF : ∀ e, d = e + 1 → SCCP Γ F e) {h : aH} {r : Int32} {h' : aH} (H : f_X5_part_90 F h = some (r, h')) : Ex Γ gX5_part d 90 [] [] h (some (.int r)) h' := by
  unfold f_X5_part_90 at H
  obtain ⟨d, rfl⟩ : ∃ e, d = e + 1 := ⟨d - 1, by omega⟩
  refine x_iconst (v := 0) dX5_part_90 (by decide) ?_
  exact t_X5_part_91 hd hF H
def f_X5_part_116 (F : Nat → Nat → Int32 → aH → Option (Int32 × aH)) (x0 : Nat) (x1 : Int32) (h : aH) : Option (Int32 × aH) :=
  ko h x0 5 <|
  bd (F 6 x0 x1 h) fun v2 h3 =>
  chk (narrow .boolean (.int v2) = .int v2) <|
  some (v2, h3)
set_option maxRecDepth 100000 in
set_option maxHeartbeats 4000000 in
theorem t_X5_part_116 {Γ : gS} {d : Nat} (hd : 9 ≤ d) {F : Nat → Nat → Int32 → aH → Option (Int32 × aH)} (hF : ∀ e, d = e + 1 → SCCP Γ F e) {x0 : Nat} {x1 : Int32} {h : aH} {r : Int32} {h' : aH} (H : f_X5_part_116 F x0 x1 h = some (r, h')) : Ex Γ gX5_part d 116 [(0, .ref x0), (1, .int x1)] [] h (some (.int r)) h' := by
  unfold f_X5_part_116 at H
  obtain ⟨d, rfl⟩ : ∃ e, d = e + 1 := ⟨d - 1, by omega⟩
  refine x_aload_n dX5_part_116 rfl 0 rfl ?_
  refine x_iload_n dX5_part_117 rfl 1 rfl ?_
  obtain ⟨c6, H⟩ := ko_o H
  obtain ⟨v2, h3, hc4, H⟩ := bd_o H
  refine x_callVi (As := [.int x1]) (q := (RX5, TX5, 5)) dX5_part_118 mi_X5_pair lk_X5_169 im_X5_pair se_X5_pair rfl c6 rfl rfl (Nat.le_of_ble_eq_true rfl) (sccU_X5_pair (hF _ rfl) hc4) ?_
  obtain ⟨c5, H⟩ := chk_o H
  obtain ⟨rfl, rfl⟩ := so_1 H
  exact x_iret dX5_part_121 rfl c5
def f_X5_part (F : Nat → Nat → Int32 → aH → Option (Int32 × aH)) (x0 : Nat) (x1 : Int32) (h : aH) : Option (Int32 × aH) :=
  ko h x0 5 <|
  kr (hR h x0 2) fun a8 =>
  ko h a8 7 <|
  if (hI h a8 2) = 2 then
    bd (f_X5_number x0 0 9999 h) fun v55 h56 =>
    if v55 = 0 then
      some (0, h56)
    else
      ko h56 x0 5 <|
      kr (hR h56 x0 3) fun a60 =>
      kr (hR h56 x0 2) fun a62 =>
      ko h56 a62 7 <|
      ko h56 a60 4 <|
      bd (f_X4_addNumber a60 (hI h56 a62 5) h56) fun _ h66 =>
      ko h66 x0 5 <|
      kr (hR h66 x0 2) fun a69 =>
      ko h66 a69 7 <|
      bd (f_X7_next a69 h66) fun _ h72 =>
      some (1, h72)
  else
    kr (hR h x0 2) fun a12 =>
    ko h a12 7 <|
    bd (f_X7_isSign a12 40 h) fun v14 h15 =>
    if v14 = 0 then
      ko h15 x0 5 <|
      kr (hR h15 x0 2) fun a19 =>
      ko h15 a19 7 <|
      bd (f_X7_isWord a19 23 h15) fun v21 h22 =>
      if v21 = 0 then
        ko h22 x0 5 <|
        kr (hR h22 x0 2) fun a26 =>
        ko h22 a26 7 <|
        bd (f_X7_isWord a26 24 h22) fun v28 h29 =>
        if v28 = 0 then
          ko h29 x0 5 <|
          bd (F 7 x0 x1 h29) fun v32 h33 =>
          chk (narrow .boolean (.int v32) = .int v32) <|
          some (v32, h33)
        else
          f_X5_part_116 F x0 x1 h29
      else
        f_X5_part_116 F x0 x1 h22
    else
      ko h15 x0 5 <|
      bd (f_X5_opening x0 x1 h15) fun v39 h40 =>
      if v39 = 0 then
        f_X5_part_90 F h40
      else
        ko h40 x0 5 <|
        bd (F 3 x0 (x1 + 1) h40) fun v43 h44 =>
        if v43 = 0 then
          f_X5_part_90 F h44
        else
          ko h44 x0 5 <|
          bd (f_X5_sign x0 41 h44) fun v47 h48 =>
          if v47 = 0 then
            f_X5_part_90 F h48
          else
            f_X5_part_91 F 1 h48
set_option maxRecDepth 100000 in
set_option maxHeartbeats 4000000 in
theorem t_X5_part {Γ : gS} {d : Nat} (hd : 9 ≤ d) {F : Nat → Nat → Int32 → aH → Option (Int32 × aH)} (hF : ∀ e, d = e + 1 → SCCP Γ F e) {x0 : Nat} {x1 : Int32} {h : aH} {r : Int32} {h' : aH} (H : f_X5_part F x0 x1 h = some (r, h')) : Mx Γ gX5_part d [.ref x0, .int x1] h (some (.int r)) h' := by
  refine Mx.of (by decide +kernel) (Nat.le_of_ble_eq_true rfl) ?_
  unfold f_X5_part at H
  show Ex Γ gX5_part d 0 [(0, .ref x0), (1, .int x1)] [] h (some (.int r)) h'
  obtain ⟨d, rfl⟩ : ∃ e, d = e + 1 := ⟨d - 1, by omega⟩
  refine x_aload_n dX5_part_0 rfl 0 rfl ?_
  obtain ⟨c7, H⟩ := ko_o H
  obtain ⟨a8, c9, H⟩ := kr_o H
  refine x_getR fr_X5_23 dX5_part_1 c7 rfl c9 ?_
  obtain ⟨c10, H⟩ := ko_o H
  refine x_getI fr_X5_46 dX5_part_4 c10 rfl ?_
  refine x_iconst (v := 2) dX5_part_7 (by decide) ?_
  refine x_icmp_ne (tgt := 47) dX5_part_8 (by decide) (fun c11 => ?_) (fun c11 => ?_)
  · replace H := ite_m H c11
    refine x_aload_n dX5_part_47 rfl 0 rfl ?_
    obtain ⟨a12, c13, H⟩ := kr_o H
    refine x_getR fr_X5_23 dX5_part_48 c7 rfl c13 ?_
    refine x_bipush (v := 40) dX5_part_51 (by decide) ?_
    obtain ⟨c54, H⟩ := ko_o H
    obtain ⟨v14, h15, hc16, H⟩ := bd_o H
    refine x_callVi (As := [.int 40]) (q := (RX7, TX7, 6)) dX5_part_53 mi_X7_isSign lk_X5_141 im_X7_isSign se_X7_isSign rfl c54 rfl rfl (Nat.le_of_ble_eq_true rfl) (t_X7_isSign (by omega) hc16) ?_
    refine x_if_eq (tgt := 92) dX5_part_56 (by decide) (fun c17 => ?_) (fun c17 => ?_)
    · replace H := ite_p H c17
      refine x_aload_n dX5_part_92 rfl 0 rfl ?_
      obtain ⟨c18, H⟩ := ko_o H
      obtain ⟨a19, c20, H⟩ := kr_o H
      refine x_getR fr_X5_23 dX5_part_93 c18 rfl c20 ?_
      refine x_bipush (v := 23) dX5_part_96 (by decide) ?_
      obtain ⟨c38, H⟩ := ko_o H
      obtain ⟨v21, h22, hc23, H⟩ := bd_o H
      refine x_callVi (As := [.int 23]) (q := (RX7, TX7, 6)) dX5_part_98 mi_X7_isWord lk_X5_138 im_X7_isWord se_X7_isWord rfl c38 rfl rfl (Nat.le_of_ble_eq_true rfl) (t_X7_isWord (by omega) hc23) ?_
      refine x_if_ne (tgt := 116) dX5_part_101 (by decide) (fun c24 => ?_) (fun c24 => ?_)
      · replace H := ite_m H c24
        exact t_X5_part_116 hd hF H
      · replace H := ite_p H c24
        refine x_aload_n dX5_part_104 rfl 0 rfl ?_
        obtain ⟨c25, H⟩ := ko_o H
        obtain ⟨a26, c27, H⟩ := kr_o H
        refine x_getR fr_X5_23 dX5_part_105 c25 rfl c27 ?_
        refine x_bipush (v := 24) dX5_part_108 (by decide) ?_
        obtain ⟨c37, H⟩ := ko_o H
        obtain ⟨v28, h29, hc30, H⟩ := bd_o H
        refine x_callVi (As := [.int 24]) (q := (RX7, TX7, 6)) dX5_part_110 mi_X7_isWord lk_X5_138 im_X7_isWord se_X7_isWord rfl c37 rfl rfl (Nat.le_of_ble_eq_true rfl) (t_X7_isWord (by omega) hc30) ?_
        refine x_if_eq (tgt := 122) dX5_part_113 (by decide) (fun c31 => ?_) (fun c31 => ?_)
        · replace H := ite_p H c31
          refine x_aload_n dX5_part_122 rfl 0 rfl ?_
          refine x_iload_n dX5_part_123 rfl 1 rfl ?_
          obtain ⟨c36, H⟩ := ko_o H
          obtain ⟨v32, h33, hc34, H⟩ := bd_o H
          refine x_callVi (As := [.int x1]) (q := (RX5, TX5, 5)) dX5_part_124 mi_X5_wordPart lk_X5_172 im_X5_wordPart se_X5_wordPart rfl c36 rfl rfl (Nat.le_of_ble_eq_true rfl) (sccU_X5_wordPart (hF _ rfl) hc34) ?_
          obtain ⟨c35, H⟩ := chk_o H
          obtain ⟨rfl, rfl⟩ := so_1 H
          exact x_iret dX5_part_127 rfl c35
        · replace H := ite_m H c31
          exact t_X5_part_116 hd hF H
    · replace H := ite_m H c17
      refine x_aload_n dX5_part_59 rfl 0 rfl ?_
      refine x_iload_n dX5_part_60 rfl 1 rfl ?_
      obtain ⟨c53, H⟩ := ko_o H
      obtain ⟨v39, h40, hc41, H⟩ := bd_o H
      refine x_callVi (As := [.int x1]) (q := (RX5, TX5, 5)) dX5_part_61 mi_X5_opening lk_X5_157 im_X5_opening se_X5_opening rfl c53 rfl rfl (Nat.le_of_ble_eq_true rfl) (t_X5_opening (by omega) hc41) ?_
      refine x_if_eq (tgt := 90) dX5_part_64 (by decide) (fun c42 => ?_) (fun c42 => ?_)
      · replace H := ite_p H c42
        refine Ex.sub [] rfl ?_
        exact t_X5_part_90 hd hF H
      · replace H := ite_m H c42
        refine x_aload_n dX5_part_67 rfl 0 rfl ?_
        refine x_iload_n dX5_part_68 rfl 1 rfl ?_
        refine x_iconst (v := 1) dX5_part_69 (by decide) ?_
        refine x_iadd dX5_part_70 ?_
        obtain ⟨c52, H⟩ := ko_o H
        obtain ⟨v43, h44, hc45, H⟩ := bd_o H
        refine x_callVi (As := [.int (x1 + 1)]) (q := (RX5, TX5, 5)) dX5_part_71 mi_X5_sum lk_X5_79 im_X5_sum se_X5_sum rfl c52 rfl rfl (Nat.le_of_ble_eq_true rfl) (sccU_X5_sum (hF _ rfl) hc45) ?_
        refine x_if_eq (tgt := 90) dX5_part_74 (by decide) (fun c46 => ?_) (fun c46 => ?_)
        · replace H := ite_p H c46
          refine Ex.sub [] rfl ?_
          exact t_X5_part_90 hd hF H
        · replace H := ite_m H c46
          refine x_aload_n dX5_part_77 rfl 0 rfl ?_
          refine x_bipush (v := 41) dX5_part_78 (by decide) ?_
          obtain ⟨c51, H⟩ := ko_o H
          obtain ⟨v47, h48, hc49, H⟩ := bd_o H
          refine x_callVi (As := [.int 41]) (q := (RX5, TX5, 5)) dX5_part_80 mi_X5_sign lk_X5_53 im_X5_sign se_X5_sign rfl c51 rfl rfl (Nat.le_of_ble_eq_true rfl) (t_X5_sign (by omega) hc49) ?_
          refine x_if_eq (tgt := 90) dX5_part_83 (by decide) (fun c50 => ?_) (fun c50 => ?_)
          · replace H := ite_p H c50
            refine Ex.sub [] rfl ?_
            exact t_X5_part_90 hd hF H
          · replace H := ite_m H c50
            refine x_iconst (v := 1) dX5_part_86 (by decide) ?_
            refine x_goto (tgt := 91) dX5_part_87 (by decide) ?_
            refine Ex.sub [] rfl ?_
            exact t_X5_part_91 hd hF H
  · replace H := ite_p H c11
    refine x_aload_n dX5_part_11 rfl 0 rfl ?_
    refine x_iconst (v := 0) dX5_part_12 (by decide) ?_
    refine x_sipush (v := 9999) dX5_part_13 (by decide) ?_
    obtain ⟨v55, h56, hc57, H⟩ := bd_o H
    refine x_callVi (As := [.int 0, .int 9999]) (q := (RX5, TX5, 5)) dX5_part_16 mi_X5_number lk_X5_91 im_X5_number se_X5_number rfl c7 rfl rfl (Nat.le_of_ble_eq_true rfl) (t_X5_number (by omega) hc57) ?_
    refine x_if_ne (tgt := 24) dX5_part_19 (by decide) (fun c58 => ?_) (fun c58 => ?_)
    · replace H := ite_m H c58
      refine x_aload_n dX5_part_24 rfl 0 rfl ?_
      obtain ⟨c59, H⟩ := ko_o H
      obtain ⟨a60, c61, H⟩ := kr_o H
      refine x_getR fr_X5_30 dX5_part_25 c59 rfl c61 ?_
      refine x_aload_n dX5_part_28 rfl 0 rfl ?_
      obtain ⟨a62, c63, H⟩ := kr_o H
      refine x_getR fr_X5_23 dX5_part_29 c59 rfl c63 ?_
      obtain ⟨c64, H⟩ := ko_o H
      refine x_getI fr_X5_70 dX5_part_32 c64 rfl ?_
      obtain ⟨c75, H⟩ := ko_o H
      obtain ⟨v65, h66, hc67, H⟩ := bd_o H
      refine x_callVv (As := [.int (hI h56 a62 5)]) (q := (RX4, TX4, 10)) dX5_part_35 mi_X4_addNumber lk_X5_166 im_X4_addNumber se_X4_addNumber rfl c75 rfl rfl (Nat.le_of_ble_eq_true rfl) (t_X4_addNumber (by omega) hc67) ?_
      refine x_aload_n dX5_part_38 rfl 0 rfl ?_
      obtain ⟨c68, H⟩ := ko_o H
      obtain ⟨a69, c70, H⟩ := kr_o H
      refine x_getR fr_X5_23 dX5_part_39 c68 rfl c70 ?_
      obtain ⟨c74, H⟩ := ko_o H
      obtain ⟨v71, h72, hc73, H⟩ := bd_o H
      refine x_callVv (As := []) (q := (RX7, TX7, 6)) dX5_part_42 mi_X7_next lk_X5_97 im_X7_next se_X7_next rfl c74 rfl rfl (Nat.le_of_ble_eq_true rfl) (t_X7_next (by omega) hc73) ?_
      refine x_iconst (v := 1) dX5_part_45 (by decide) ?_
      obtain ⟨rfl, rfl⟩ := so_1 H
      exact x_iret dX5_part_46 rfl (by decide)
    · replace H := ite_p H c58
      refine x_iconst (v := 0) dX5_part_22 (by decide) ?_
      obtain ⟨rfl, rfl⟩ := so_1 H
      exact x_iret dX5_part_23 rfl (by decide)
def f_X5_pair_86 (F : Nat → Nat → Int32 → aH → Option (Int32 × aH)) (h : aH) : Option (Int32 × aH) :=
  some (0, h)
set_option maxRecDepth 100000 in
set_option maxHeartbeats 4000000 in
theorem t_X5_pair_86 {Γ : gS} {d : Nat} (hd : 9 ≤ d) {F : Nat → Nat → Int32 → aH → Option (Int32 × aH)} (hF : ∀ e, d = e + 1 → SCCP Γ F e) {h : aH} {r : Int32} {h' : aH} (H : f_X5_pair_86 F h = some (r, h')) : Ex Γ gX5_pair d 86 [] [] h (some (.int r)) h' := by
  unfold f_X5_pair_86 at H
  obtain ⟨d, rfl⟩ : ∃ e, d = e + 1 := ⟨d - 1, by omega⟩
  refine x_iconst (v := 0) dX5_pair_86 (by decide) ?_
  obtain ⟨rfl, rfl⟩ := so_1 H
  exact x_iret dX5_pair_87 rfl (by decide)
def f_X5_pair (F : Nat → Nat → Int32 → aH → Option (Int32 × aH)) (x0 : Nat) (x1 : Int32) (h : aH) : Option (Int32 × aH) :=
  ko h x0 5 <|
  kr (hR h x0 2) fun a2 =>
  ko h a2 7 <|
  nm (hI h a2 5) fun (v5 : Int32) =>
  kr (hR h x0 2) fun a6 =>
  ko h a6 7 <|
  bd (f_X7_next a6 h) fun _ h9 =>
  ko h9 x0 5 <|
  kr (hR h9 x0 2) fun a12 =>
  ko h9 a12 7 <|
  bd (f_X7_isSign a12 40 h9) fun v14 h15 =>
  if v14 = 0 then
    ko h15 x0 5 <|
    kr (hR h15 x0 2) fun a51 =>
    ko h15 a51 7 <|
    bd (f_X5_fail x0 1 (hI h15 a51 3) h15) fun v54 h55 =>
    chk (narrow .boolean (.int v54) = .int v54) <|
    some (v54, h55)
  else
    ko h15 x0 5 <|
    bd (f_X5_opening x0 x1 h15) fun v18 h19 =>
    if v18 = 0 then
      f_X5_pair_86 F h19
    else
      ko h19 x0 5 <|
      bd (F 3 x0 (x1 + 1) h19) fun v22 h23 =>
      if v22 = 0 then
        f_X5_pair_86 F h23
      else
        ko h23 x0 5 <|
        bd (f_X5_sign x0 44 h23) fun v26 h27 =>
        if v26 = 0 then
          f_X5_pair_86 F h27
        else
          ko h27 x0 5 <|
          bd (F 3 x0 (x1 + 1) h27) fun v30 h31 =>
          if v30 = 0 then
            f_X5_pair_86 F h31
          else
            ko h31 x0 5 <|
            bd (f_X5_sign x0 41 h31) fun v34 h35 =>
            if v34 = 0 then
              f_X5_pair_86 F h35
            else
              ko h35 x0 5 <|
              kr (hR h35 x0 3) fun a39 =>
              ko h35 a39 4 <|
              bd (f_X4_addOperation a39 v5 h35) fun _ h42 =>
              some (1, h42)
set_option maxRecDepth 100000 in
set_option maxHeartbeats 4000000 in
theorem t_X5_pair {Γ : gS} {d : Nat} (hd : 9 ≤ d) {F : Nat → Nat → Int32 → aH → Option (Int32 × aH)} (hF : ∀ e, d = e + 1 → SCCP Γ F e) {x0 : Nat} {x1 : Int32} {h : aH} {r : Int32} {h' : aH} (H : f_X5_pair F x0 x1 h = some (r, h')) : Mx Γ gX5_pair d [.ref x0, .int x1] h (some (.int r)) h' := by
  refine Mx.of (by decide +kernel) (Nat.le_of_ble_eq_true rfl) ?_
  unfold f_X5_pair at H
  show Ex Γ gX5_pair d 0 [(0, .ref x0), (1, .int x1)] [] h (some (.int r)) h'
  obtain ⟨d, rfl⟩ : ∃ e, d = e + 1 := ⟨d - 1, by omega⟩
  refine x_aload_n dX5_pair_0 rfl 0 rfl ?_
  obtain ⟨c1, H⟩ := ko_o H
  obtain ⟨a2, c3, H⟩ := kr_o H
  refine x_getR fr_X5_23 dX5_pair_1 c1 rfl c3 ?_
  obtain ⟨c4, H⟩ := ko_o H
  refine x_getI fr_X5_70 dX5_pair_4 c4 rfl ?_
  obtain ⟨v5, ev5, H⟩ := nm_o H
  refine x_istore_n (lv' := [(2, .int v5), (0, .ref x0), (1, .int x1)]) dX5_pair_7 rfl (by decide) ev5 rfl ?_
  refine x_aload_n dX5_pair_8 rfl 1 rfl ?_
  obtain ⟨a6, c7, H⟩ := kr_o H
  refine x_getR fr_X5_23 dX5_pair_9 c1 rfl c7 ?_
  obtain ⟨c59, H⟩ := ko_o H
  obtain ⟨v8, h9, hc10, H⟩ := bd_o H
  refine x_callVv (As := []) (q := (RX7, TX7, 6)) dX5_pair_12 mi_X7_next lk_X5_97 im_X7_next se_X7_next rfl c59 rfl rfl (Nat.le_of_ble_eq_true rfl) (t_X7_next (by omega) hc10) ?_
  refine x_aload_n dX5_pair_15 rfl 1 rfl ?_
  obtain ⟨c11, H⟩ := ko_o H
  obtain ⟨a12, c13, H⟩ := kr_o H
  refine x_getR fr_X5_23 dX5_pair_16 c11 rfl c13 ?_
  refine x_bipush (v := 40) dX5_pair_19 (by decide) ?_
  obtain ⟨c58, H⟩ := ko_o H
  obtain ⟨v14, h15, hc16, H⟩ := bd_o H
  refine x_callVi (As := [.int 40]) (q := (RX7, TX7, 6)) dX5_pair_21 mi_X7_isSign lk_X5_141 im_X7_isSign se_X7_isSign rfl c58 rfl rfl (Nat.le_of_ble_eq_true rfl) (t_X7_isSign (by omega) hc16) ?_
  refine x_if_ne (tgt := 40) dX5_pair_24 (by decide) (fun c17 => ?_) (fun c17 => ?_)
  · replace H := ite_m H c17
    refine x_aload_n dX5_pair_40 rfl 1 rfl ?_
    refine x_iload_n dX5_pair_41 rfl 2 rfl ?_
    obtain ⟨c49, H⟩ := ko_o H
    obtain ⟨v18, h19, hc20, H⟩ := bd_o H
    refine x_callVi (As := [.int x1]) (q := (RX5, TX5, 5)) dX5_pair_42 mi_X5_opening lk_X5_157 im_X5_opening se_X5_opening rfl c49 rfl rfl (Nat.le_of_ble_eq_true rfl) (t_X5_opening (by omega) hc20) ?_
    refine x_if_eq (tgt := 86) dX5_pair_45 (by decide) (fun c21 => ?_) (fun c21 => ?_)
    · replace H := ite_p H c21
      refine Ex.sub [] rfl ?_
      exact t_X5_pair_86 hd hF H
    · replace H := ite_m H c21
      refine x_aload_n dX5_pair_48 rfl 1 rfl ?_
      refine x_iload_n dX5_pair_49 rfl 2 rfl ?_
      refine x_iconst (v := 1) dX5_pair_50 (by decide) ?_
      refine x_iadd dX5_pair_51 ?_
      obtain ⟨c48, H⟩ := ko_o H
      obtain ⟨v22, h23, hc24, H⟩ := bd_o H
      refine x_callVi (As := [.int (x1 + 1)]) (q := (RX5, TX5, 5)) dX5_pair_52 mi_X5_sum lk_X5_79 im_X5_sum se_X5_sum rfl c48 rfl rfl (Nat.le_of_ble_eq_true rfl) (sccU_X5_sum (hF _ rfl) hc24) ?_
      refine x_if_eq (tgt := 86) dX5_pair_55 (by decide) (fun c25 => ?_) (fun c25 => ?_)
      · replace H := ite_p H c25
        refine Ex.sub [] rfl ?_
        exact t_X5_pair_86 hd hF H
      · replace H := ite_m H c25
        refine x_aload_n dX5_pair_58 rfl 1 rfl ?_
        refine x_bipush (v := 44) dX5_pair_59 (by decide) ?_
        obtain ⟨c47, H⟩ := ko_o H
        obtain ⟨v26, h27, hc28, H⟩ := bd_o H
        refine x_callVi (As := [.int 44]) (q := (RX5, TX5, 5)) dX5_pair_61 mi_X5_sign lk_X5_53 im_X5_sign se_X5_sign rfl c47 rfl rfl (Nat.le_of_ble_eq_true rfl) (t_X5_sign (by omega) hc28) ?_
        refine x_if_eq (tgt := 86) dX5_pair_64 (by decide) (fun c29 => ?_) (fun c29 => ?_)
        · replace H := ite_p H c29
          refine Ex.sub [] rfl ?_
          exact t_X5_pair_86 hd hF H
        · replace H := ite_m H c29
          refine x_aload_n dX5_pair_67 rfl 1 rfl ?_
          refine x_iload_n dX5_pair_68 rfl 2 rfl ?_
          refine x_iconst (v := 1) dX5_pair_69 (by decide) ?_
          refine x_iadd dX5_pair_70 ?_
          obtain ⟨c46, H⟩ := ko_o H
          obtain ⟨v30, h31, hc32, H⟩ := bd_o H
          refine x_callVi (As := [.int (x1 + 1)]) (q := (RX5, TX5, 5)) dX5_pair_71 mi_X5_sum lk_X5_79 im_X5_sum se_X5_sum rfl c46 rfl rfl (Nat.le_of_ble_eq_true rfl) (sccU_X5_sum (hF _ rfl) hc32) ?_
          refine x_if_eq (tgt := 86) dX5_pair_74 (by decide) (fun c33 => ?_) (fun c33 => ?_)
          · replace H := ite_p H c33
            refine Ex.sub [] rfl ?_
            exact t_X5_pair_86 hd hF H
          · replace H := ite_m H c33
            refine x_aload_n dX5_pair_77 rfl 1 rfl ?_
            refine x_bipush (v := 41) dX5_pair_78 (by decide) ?_
            obtain ⟨c45, H⟩ := ko_o H
            obtain ⟨v34, h35, hc36, H⟩ := bd_o H
            refine x_callVi (As := [.int 41]) (q := (RX5, TX5, 5)) dX5_pair_80 mi_X5_sign lk_X5_53 im_X5_sign se_X5_sign rfl c45 rfl rfl (Nat.le_of_ble_eq_true rfl) (t_X5_sign (by omega) hc36) ?_
            refine x_if_ne (tgt := 88) dX5_pair_83 (by decide) (fun c37 => ?_) (fun c37 => ?_)
            · replace H := ite_m H c37
              refine x_aload_n dX5_pair_88 rfl 1 rfl ?_
              obtain ⟨c38, H⟩ := ko_o H
              obtain ⟨a39, c40, H⟩ := kr_o H
              refine x_getR fr_X5_30 dX5_pair_89 c38 rfl c40 ?_
              refine x_iload_n dX5_pair_92 rfl 0 rfl ?_
              obtain ⟨c44, H⟩ := ko_o H
              obtain ⟨v41, h42, hc43, H⟩ := bd_o H
              refine x_callVv (As := [.int v5]) (q := (RX4, TX4, 10)) dX5_pair_93 mi_X4_addOperation lk_X5_151 im_X4_addOperation se_X4_addOperation rfl c44 rfl rfl (Nat.le_of_ble_eq_true rfl) (t_X4_addOperation (by omega) hc43) ?_
              refine x_iconst (v := 1) dX5_pair_96 (by decide) ?_
              obtain ⟨rfl, rfl⟩ := so_1 H
              exact x_iret dX5_pair_97 rfl (by decide)
            · replace H := ite_p H c37
              refine Ex.sub [] rfl ?_
              exact t_X5_pair_86 hd hF H
  · replace H := ite_p H c17
    refine x_aload_n dX5_pair_27 rfl 1 rfl ?_
    refine x_iconst (v := 1) dX5_pair_28 (by decide) ?_
    refine x_aload_n dX5_pair_29 rfl 1 rfl ?_
    obtain ⟨c50, H⟩ := ko_o H
    obtain ⟨a51, c52, H⟩ := kr_o H
    refine x_getR fr_X5_23 dX5_pair_30 c50 rfl c52 ?_
    obtain ⟨c53, H⟩ := ko_o H
    refine x_getI fr_X5_60 dX5_pair_33 c53 rfl ?_
    obtain ⟨v54, h55, hc56, H⟩ := bd_o H
    refine x_callVi (As := [.int 1, .int (hI h15 a51 3)]) (q := (RX5, TX5, 5)) dX5_pair_36 mi_X5_fail lk_X5_63 im_X5_fail se_X5_fail rfl c50 rfl rfl (Nat.le_of_ble_eq_true rfl) (t_X5_fail (by omega) hc56) ?_
    obtain ⟨c57, H⟩ := chk_o H
    obtain ⟨rfl, rfl⟩ := so_1 H
    exact x_iret dX5_pair_39 rfl c57
def f_X5_wordPart_44 (F : Nat → Nat → Int32 → aH → Option (Int32 × aH)) (x0 : Nat) (h : aH) : Option (Int32 × aH) :=
  ko h x0 5 <|
  kr (hR h x0 2) fun a2 =>
  ko h a2 7 <|
  bd (f_X5_fail x0 1 (hI h a2 3) h) fun v5 h6 =>
  chk (narrow .boolean (.int v5) = .int v5) <|
  some (v5, h6)
set_option maxRecDepth 100000 in
set_option maxHeartbeats 4000000 in
theorem t_X5_wordPart_44 {Γ : gS} {d : Nat} (hd : 9 ≤ d) {F : Nat → Nat → Int32 → aH → Option (Int32 × aH)} (hF : ∀ e, d = e + 1 → SCCP Γ F e) {x0 : Nat} {h : aH} {r : Int32} {h' : aH} (H : f_X5_wordPart_44 F x0 h = some (r, h')) : Ex Γ gX5_wordPart d 44 [(0, .ref x0)] [] h (some (.int r)) h' := by
  unfold f_X5_wordPart_44 at H
  obtain ⟨d, rfl⟩ : ∃ e, d = e + 1 := ⟨d - 1, by omega⟩
  refine x_aload_n dX5_wordPart_44 rfl 0 rfl ?_
  refine x_iconst (v := 1) dX5_wordPart_45 (by decide) ?_
  refine x_aload_n dX5_wordPart_46 rfl 0 rfl ?_
  obtain ⟨c1, H⟩ := ko_o H
  obtain ⟨a2, c3, H⟩ := kr_o H
  refine x_getR fr_X5_23 dX5_wordPart_47 c1 rfl c3 ?_
  obtain ⟨c4, H⟩ := ko_o H
  refine x_getI fr_X5_60 dX5_wordPart_50 c4 rfl ?_
  obtain ⟨v5, h6, hc7, H⟩ := bd_o H
  refine x_callVi (As := [.int 1, .int (hI h a2 3)]) (q := (RX5, TX5, 5)) dX5_wordPart_53 mi_X5_fail lk_X5_63 im_X5_fail se_X5_fail rfl c1 rfl rfl (Nat.le_of_ble_eq_true rfl) (t_X5_fail (by omega) hc7) ?_
  obtain ⟨c8, H⟩ := chk_o H
  obtain ⟨rfl, rfl⟩ := so_1 H
  exact x_iret dX5_wordPart_56 rfl c8
def f_X5_wordPart_93 (F : Nat → Nat → Int32 → aH → Option (Int32 × aH)) (x0 : Nat) (x2 : Int32) (h : aH) : Option (Int32 × aH) :=
  ko h x0 5 <|
  kr (hR h x0 3) fun a10 =>
  ko h a10 4 <|
  bd (f_X4_addOperation a10 x2 h) fun _ h13 =>
  some (1, h13)
set_option maxRecDepth 100000 in
set_option maxHeartbeats 4000000 in
theorem t_X5_wordPart_93 {Γ : gS} {d : Nat} (hd : 9 ≤ d) {F : Nat → Nat → Int32 → aH → Option (Int32 × aH)} (hF : ∀ e, d = e + 1 → SCCP Γ F e) {x0 : Nat} {x2 : Int32} {h : aH} {r : Int32} {h' : aH} (H : f_X5_wordPart_93 F x0 x2 h = some (r, h')) : Ex Γ gX5_wordPart d 93 [(0, .ref x0), (2, .int x2)] [] h (some (.int r)) h' := by
  unfold f_X5_wordPart_93 at H
  obtain ⟨d, rfl⟩ : ∃ e, d = e + 1 := ⟨d - 1, by omega⟩
  refine x_aload_n dX5_wordPart_93 rfl 0 rfl ?_
  obtain ⟨c9, H⟩ := ko_o H
  obtain ⟨a10, c11, H⟩ := kr_o H
  refine x_getR fr_X5_30 dX5_wordPart_94 c9 rfl c11 ?_
  refine x_iload_n dX5_wordPart_97 rfl 1 rfl ?_
  obtain ⟨c15, H⟩ := ko_o H
  obtain ⟨v12, h13, hc14, H⟩ := bd_o H
  refine x_callVv (As := [.int x2]) (q := (RX4, TX4, 10)) dX5_wordPart_98 mi_X4_addOperation lk_X5_151 im_X4_addOperation se_X4_addOperation rfl c15 rfl rfl (Nat.le_of_ble_eq_true rfl) (t_X4_addOperation (by omega) hc14) ?_
  refine x_iconst (v := 1) dX5_wordPart_101 (by decide) ?_
  obtain ⟨rfl, rfl⟩ := so_1 H
  exact x_iret dX5_wordPart_102 rfl (by decide)
def f_X5_wordPart_91 (F : Nat → Nat → Int32 → aH → Option (Int32 × aH)) (h : aH) : Option (Int32 × aH) :=
  some (0, h)
set_option maxRecDepth 100000 in
set_option maxHeartbeats 4000000 in
theorem t_X5_wordPart_91 {Γ : gS} {d : Nat} (hd : 9 ≤ d) {F : Nat → Nat → Int32 → aH → Option (Int32 × aH)} (hF : ∀ e, d = e + 1 → SCCP Γ F e) {h : aH} {r : Int32} {h' : aH} (H : f_X5_wordPart_91 F h = some (r, h')) : Ex Γ gX5_wordPart d 91 [] [] h (some (.int r)) h' := by
  unfold f_X5_wordPart_91 at H
  obtain ⟨d, rfl⟩ : ∃ e, d = e + 1 := ⟨d - 1, by omega⟩
  refine x_iconst (v := 0) dX5_wordPart_91 (by decide) ?_
  obtain ⟨rfl, rfl⟩ := so_1 H
  exact x_iret dX5_wordPart_92 rfl (by decide)
def f_X5_wordPart_22 (F : Nat → Nat → Int32 → aH → Option (Int32 × aH)) (x0 : Nat) (x1 : Int32) (s0 : Int32) (h : aH) : Option (Int32 × aH) :=
  if s0 < 0 then
    f_X5_wordPart_44 F x0 h
  else
    if 18 < s0 then
      f_X5_wordPart_44 F x0 h
    else
      ko h x0 5 <|
      if (((hI h x0 4) >>> (s0 &&& 31)) &&& 1) = 0 then
        f_X5_wordPart_44 F x0 h
      else
        if 17 ≤ s0 then
          bd (f_X5_opening x0 x1 h) fun v21 h22 =>
          if v21 = 0 then
            f_X5_wordPart_91 F h22
          else
            ko h22 x0 5 <|
            bd (F 5 x0 (x1 + 1) h22) fun v25 h26 =>
            if v25 = 0 then
              f_X5_wordPart_91 F h26
            else
              f_X5_wordPart_93 F x0 s0 h26
        else
          kr (hR h x0 2) fun a30 =>
          ko h a30 7 <|
          bd (f_X7_next a30 h) fun _ h33 =>
          f_X5_wordPart_93 F x0 s0 h33
set_option maxRecDepth 100000 in
set_option maxHeartbeats 4000000 in
theorem t_X5_wordPart_22 {Γ : gS} {d : Nat} (hd : 9 ≤ d) {F : Nat → Nat → Int32 → aH → Option (Int32 × aH)} (hF : ∀ e, d = e + 1 → SCCP Γ F e) {x0 : Nat} {x1 : Int32} {s0 : Int32} {h : aH} {r : Int32} {h' : aH} (H : f_X5_wordPart_22 F x0 x1 s0 h = some (r, h')) : Ex Γ gX5_wordPart d 22 [(0, .ref x0), (1, .int x1)] [.int s0] h (some (.int r)) h' := by
  unfold f_X5_wordPart_22 at H
  obtain ⟨d, rfl⟩ : ∃ e, d = e + 1 := ⟨d - 1, by omega⟩
  refine x_istore_n (lv' := [(2, .int s0), (0, .ref x0), (1, .int x1)]) dX5_wordPart_22 rfl (by decide) rfl rfl ?_
  refine x_iload_n dX5_wordPart_23 rfl 0 rfl ?_
  refine x_if_lt (tgt := 44) dX5_wordPart_24 (by decide) (fun c16 => ?_) (fun c16 => ?_)
  · replace H := ite_p H c16
    refine Ex.sub [1] rfl ?_
    exact t_X5_wordPart_44 hd hF H
  · replace H := ite_m H c16
    refine x_iload_n dX5_wordPart_27 rfl 0 rfl ?_
    refine x_bipush (v := 18) dX5_wordPart_28 (by decide) ?_
    refine x_icmp_gt (tgt := 44) dX5_wordPart_30 (by decide) (fun c17 => ?_) (fun c17 => ?_)
    · replace H := ite_p H c17
      refine Ex.sub [1] rfl ?_
      exact t_X5_wordPart_44 hd hF H
    · replace H := ite_m H c17
      refine x_aload_n dX5_wordPart_33 rfl 1 rfl ?_
      obtain ⟨c18, H⟩ := ko_o H
      refine x_getI fr_X5_27 dX5_wordPart_34 c18 rfl ?_
      refine x_iload_n dX5_wordPart_37 rfl 0 rfl ?_
      refine x_ishr dX5_wordPart_38 ?_
      refine x_iconst (v := 1) dX5_wordPart_39 (by decide) ?_
      refine x_iand dX5_wordPart_40 ?_
      refine x_if_ne (tgt := 57) dX5_wordPart_41 (by decide) (fun c19 => ?_) (fun c19 => ?_)
      · replace H := ite_m H c19
        refine x_iload_n dX5_wordPart_57 rfl 0 rfl ?_
        refine x_bipush (v := 17) dX5_wordPart_58 (by decide) ?_
        refine x_icmp_ge (tgt := 73) dX5_wordPart_60 (by decide) (fun c20 => ?_) (fun c20 => ?_)
        · replace H := ite_p H c20
          refine x_aload_n dX5_wordPart_73 rfl 1 rfl ?_
          refine x_iload_n dX5_wordPart_74 rfl 2 rfl ?_
          obtain ⟨v21, h22, hc23, H⟩ := bd_o H
          refine x_callVi (As := [.int x1]) (q := (RX5, TX5, 5)) dX5_wordPart_75 mi_X5_opening lk_X5_157 im_X5_opening se_X5_opening rfl c18 rfl rfl (Nat.le_of_ble_eq_true rfl) (t_X5_opening (by omega) hc23) ?_
          refine x_if_eq (tgt := 91) dX5_wordPart_78 (by decide) (fun c24 => ?_) (fun c24 => ?_)
          · replace H := ite_p H c24
            refine Ex.sub [] rfl ?_
            exact t_X5_wordPart_91 hd hF H
          · replace H := ite_m H c24
            refine x_aload_n dX5_wordPart_81 rfl 1 rfl ?_
            refine x_iload_n dX5_wordPart_82 rfl 2 rfl ?_
            refine x_iconst (v := 1) dX5_wordPart_83 (by decide) ?_
            refine x_iadd dX5_wordPart_84 ?_
            obtain ⟨c29, H⟩ := ko_o H
            obtain ⟨v25, h26, hc27, H⟩ := bd_o H
            refine x_callVi (As := [.int (x1 + 1)]) (q := (RX5, TX5, 5)) dX5_wordPart_85 mi_X5_part lk_X5_163 im_X5_part se_X5_part rfl c29 rfl rfl (Nat.le_of_ble_eq_true rfl) (sccU_X5_part (hF _ rfl) hc27) ?_
            refine x_if_ne (tgt := 93) dX5_wordPart_88 (by decide) (fun c28 => ?_) (fun c28 => ?_)
            · replace H := ite_m H c28
              refine Ex.sub [1, 0] rfl ?_
              exact t_X5_wordPart_93 hd hF H
            · replace H := ite_p H c28
              refine Ex.sub [] rfl ?_
              exact t_X5_wordPart_91 hd hF H
        · replace H := ite_m H c20
          refine x_aload_n dX5_wordPart_63 rfl 1 rfl ?_
          obtain ⟨a30, c31, H⟩ := kr_o H
          refine x_getR fr_X5_23 dX5_wordPart_64 c18 rfl c31 ?_
          obtain ⟨c35, H⟩ := ko_o H
          obtain ⟨v32, h33, hc34, H⟩ := bd_o H
          refine x_callVv (As := []) (q := (RX7, TX7, 6)) dX5_wordPart_67 mi_X7_next lk_X5_97 im_X7_next se_X7_next rfl c35 rfl rfl (Nat.le_of_ble_eq_true rfl) (t_X7_next (by omega) hc34) ?_
          refine x_goto (tgt := 93) dX5_wordPart_70 (by decide) ?_
          refine Ex.sub [1, 0] rfl ?_
          exact t_X5_wordPart_93 hd hF H
      · replace H := ite_p H c19
        refine Ex.sub [1] rfl ?_
        exact t_X5_wordPart_44 hd hF H
def f_X5_wordPart (F : Nat → Nat → Int32 → aH → Option (Int32 × aH)) (x0 : Nat) (x1 : Int32) (h : aH) : Option (Int32 × aH) :=
  ko h x0 5 <|
  kr (hR h x0 2) fun a37 =>
  ko h a37 7 <|
  if (hI h a37 2) = 1 then
    kr (hR h x0 2) fun a41 =>
    ko h a41 7 <|
    f_X5_wordPart_22 F x0 x1 (hI h a41 5) h
  else
    f_X5_wordPart_22 F x0 x1 (-1) h
set_option maxRecDepth 100000 in
set_option maxHeartbeats 4000000 in
theorem t_X5_wordPart {Γ : gS} {d : Nat} (hd : 9 ≤ d) {F : Nat → Nat → Int32 → aH → Option (Int32 × aH)} (hF : ∀ e, d = e + 1 → SCCP Γ F e) {x0 : Nat} {x1 : Int32} {h : aH} {r : Int32} {h' : aH} (H : f_X5_wordPart F x0 x1 h = some (r, h')) : Mx Γ gX5_wordPart d [.ref x0, .int x1] h (some (.int r)) h' := by
  refine Mx.of (by decide +kernel) (Nat.le_of_ble_eq_true rfl) ?_
  unfold f_X5_wordPart at H
  show Ex Γ gX5_wordPart d 0 [(0, .ref x0), (1, .int x1)] [] h (some (.int r)) h'
  obtain ⟨d, rfl⟩ : ∃ e, d = e + 1 := ⟨d - 1, by omega⟩
  refine x_aload_n dX5_wordPart_0 rfl 0 rfl ?_
  obtain ⟨c36, H⟩ := ko_o H
  obtain ⟨a37, c38, H⟩ := kr_o H
  refine x_getR fr_X5_23 dX5_wordPart_1 c36 rfl c38 ?_
  obtain ⟨c39, H⟩ := ko_o H
  refine x_getI fr_X5_46 dX5_wordPart_4 c39 rfl ?_
  refine x_iconst (v := 1) dX5_wordPart_7 (by decide) ?_
  refine x_icmp_ne (tgt := 21) dX5_wordPart_8 (by decide) (fun c40 => ?_) (fun c40 => ?_)
  · replace H := ite_m H c40
    refine x_iconst (v := (-1)) dX5_wordPart_21 (by decide) ?_
    exact t_X5_wordPart_22 hd hF H
  · replace H := ite_p H c40
    refine x_aload_n dX5_wordPart_11 rfl 0 rfl ?_
    obtain ⟨a41, c42, H⟩ := kr_o H
    refine x_getR fr_X5_23 dX5_wordPart_12 c36 rfl c42 ?_
    obtain ⟨c43, H⟩ := ko_o H
    refine x_getI fr_X5_70 dX5_wordPart_15 c43 rfl ?_
    refine x_goto (tgt := 22) dX5_wordPart_18 (by decide) ?_
    exact t_X5_wordPart_22 hd hF H
def f_P : Nat → Nat → Nat → Int32 → aH → Option (Int32 × aH)
  | 0 => fun _ _ _ _ => none
  | n + 1 => fun t x0 x1 h => match t with
    | 0 => f_X5_test (f_P n) x0 x1 h
    | 1 => f_X5_both (f_P n) x0 x1 h
    | 2 => f_X5_fact (f_P n) x0 x1 h
    | 3 => f_X5_sum (f_P n) x0 x1 h
    | 4 => f_X5_product (f_P n) x0 x1 h
    | 5 => f_X5_part (f_P n) x0 x1 h
    | 6 => f_X5_pair (f_P n) x0 x1 h
    | _ => f_X5_wordPart (f_P n) x0 x1 h
theorem scc_all {Γ : gS} (n : Nat) : ∀ {d : Nat}, n + 9 ≤ d → SCCP Γ (f_P n) d := by
  induction n with
  | zero => intro d _; exact ⟨(fun H => by cases H), (fun H => by cases H), (fun H => by cases H), (fun H => by cases H), (fun H => by cases H), (fun H => by cases H), (fun H => by cases H), (fun H => by cases H)⟩
  | succ n ih =>
    intro d hd
    have hF : ∀ e, d = e + 1 → SCCP Γ (f_P n) e := fun e he => ih (by omega)
    exact ⟨fun H => t_X5_test (by omega) hF H, fun H => t_X5_both (by omega) hF H, fun H => t_X5_fact (by omega) hF H, fun H => t_X5_sum (by omega) hF H, fun H => t_X5_product (by omega) hF H, fun H => t_X5_part (by omega) hF H, fun H => t_X5_pair (by omega) hF H, fun H => t_X5_wordPart (by omega) hF H⟩
theorem ts_X5_test {Γ : gS} {d : Nat} (hd : 109 ≤ d) {x0 : Nat} {x1 : Int32} {h : aH} {r : Int32} {h' : aH} (H : f_P 100 0 x0 x1 h = some (r, h')) : Mx Γ gX5_test d [.ref x0, .int x1] h (some (.int r)) h' := sccU_X5_test (scc_all 100 hd) H
theorem ts_X5_both {Γ : gS} {d : Nat} (hd : 109 ≤ d) {x0 : Nat} {x1 : Int32} {h : aH} {r : Int32} {h' : aH} (H : f_P 100 1 x0 x1 h = some (r, h')) : Mx Γ gX5_both d [.ref x0, .int x1] h (some (.int r)) h' := sccU_X5_both (scc_all 100 hd) H
theorem ts_X5_fact {Γ : gS} {d : Nat} (hd : 109 ≤ d) {x0 : Nat} {x1 : Int32} {h : aH} {r : Int32} {h' : aH} (H : f_P 100 2 x0 x1 h = some (r, h')) : Mx Γ gX5_fact d [.ref x0, .int x1] h (some (.int r)) h' := sccU_X5_fact (scc_all 100 hd) H
theorem ts_X5_sum {Γ : gS} {d : Nat} (hd : 109 ≤ d) {x0 : Nat} {x1 : Int32} {h : aH} {r : Int32} {h' : aH} (H : f_P 100 3 x0 x1 h = some (r, h')) : Mx Γ gX5_sum d [.ref x0, .int x1] h (some (.int r)) h' := sccU_X5_sum (scc_all 100 hd) H
theorem ts_X5_product {Γ : gS} {d : Nat} (hd : 109 ≤ d) {x0 : Nat} {x1 : Int32} {h : aH} {r : Int32} {h' : aH} (H : f_P 100 4 x0 x1 h = some (r, h')) : Mx Γ gX5_product d [.ref x0, .int x1] h (some (.int r)) h' := sccU_X5_product (scc_all 100 hd) H
theorem ts_X5_part {Γ : gS} {d : Nat} (hd : 109 ≤ d) {x0 : Nat} {x1 : Int32} {h : aH} {r : Int32} {h' : aH} (H : f_P 100 5 x0 x1 h = some (r, h')) : Mx Γ gX5_part d [.ref x0, .int x1] h (some (.int r)) h' := sccU_X5_part (scc_all 100 hd) H
theorem ts_X5_pair {Γ : gS} {d : Nat} (hd : 109 ≤ d) {x0 : Nat} {x1 : Int32} {h : aH} {r : Int32} {h' : aH} (H : f_P 100 6 x0 x1 h = some (r, h')) : Mx Γ gX5_pair d [.ref x0, .int x1] h (some (.int r)) h' := sccU_X5_pair (scc_all 100 hd) H
theorem ts_X5_wordPart {Γ : gS} {d : Nat} (hd : 109 ≤ d) {x0 : Nat} {x1 : Int32} {h : aH} {r : Int32} {h' : aH} (H : f_P 100 7 x0 x1 h = some (r, h')) : Mx Γ gX5_wordPart d [.ref x0, .int x1] h (some (.int r)) h' := sccU_X5_wordPart (scc_all 100 hd) H
