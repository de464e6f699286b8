def f_X5_init (x0 : Nat) (x1 : Nat) (h : aH) : Option (Unit × aH) :=
  ko h x0 5 <|
  nm (hN (sI (sI h x0 0 0) x0 1 (-1))) fun (a3 : Nat) =>
  nm (nw (sI (sI h x0 0 0) x0 1 (-1)) (.inl 7) 6) fun (h2 : aH) =>
  bd (f_X7_init a3 h2) fun _ h5 =>
  ko h5 x0 5 <|
  some ((), sR (sI (sR h5 x0 2 (some a3)) x0 4 0) x0 3 (some x1))
set_option maxRecDepth 100000 in
set_option maxHeartbeats 4000000 in
theorem t_X5_init {Γ : gS} {d : Nat} (hd : 2 ≤ d) {x0 : Nat} {x1 : Nat} {h : aH} {r : Unit} {h' : aH} (H : f_X5_init x0 x1 h = some (r, h')) : Mx Γ gX5_init d [.ref x0, .ref x1] h none h' := by
  refine Mx.of (by decide +kernel) (Nat.le_of_ble_eq_true rfl) ?_
  unfold f_X5_init at H
  show Ex Γ gX5_init d 0 [(0, .ref x0), (1, .ref x1)] [] h none h'
  obtain ⟨d, rfl⟩ : ∃ e, d = e + 1 := ⟨d - 1, by omega⟩
  refine x_aload_n dX5_init_0 rfl 0 rfl ?_
  refine x_oinit dX5_init_1 lk_X5_7 im_obj co_obj (Nat.le_of_ble_eq_true rfl) ?_
  refine x_aload_n dX5_init_4 rfl 0 rfl ?_
  refine x_iconst (v := 0) dX5_init_5 (by decide) ?_
  obtain ⟨c1, H⟩ := ko_o H
  refine x_putI fl_X5_13 dX5_init_6 c1 (fun e => by cases e) rfl ?_
  refine x_aload_n dX5_init_9 rfl 0 rfl ?_
  refine x_iconst (v := (-1)) dX5_init_10 (by decide) ?_
  refine x_putI fl_X5_17 dX5_init_11 c1 (fun e => by cases e) rfl ?_
  refine x_aload_n dX5_init_14 rfl 0 rfl ?_
  obtain ⟨a3, ea3, H⟩ := nm_o H
  obtain ⟨h2, eh2, H⟩ := nm_o H
  refine x_new (q := (RX7, TX7, 6)) dX5_init_15 ck7 rfl cl_X5_20 is_X7 ii_X7 ?_
  rw [ea3]
  refine Ex.ren eh2 ?_
  refine x_dup dX5_init_18 rfl ?_
  obtain ⟨v4, h5, hc6, H⟩ := bd_o H
  refine x_callINv (As := []) (host := "FatPointers") dX5_init_19 mi_X7_init (by decide) im_X7_init rfl rfl rfl (Nat.le_of_ble_eq_true rfl) (t_X7_init (by omega) hc6) ?_
  obtain ⟨c7, H⟩ := ko_o H
  refine x_putR fl_X5_23 dX5_init_22 c7 (fun _ => rfl) rfl ?_
  refine x_aload_n dX5_init_25 rfl 0 rfl ?_
  refine x_iconst (v := 0) dX5_init_26 (by decide) ?_
  refine x_putI fl_X5_27 dX5_init_27 c7 (fun e => by cases e) rfl ?_
  refine x_aload_n dX5_init_30 rfl 0 rfl ?_
  refine x_aload_n dX5_init_31 rfl 1 rfl ?_
  refine x_putR fl_X5_30 dX5_init_32 c7 (fun e => by cases e) rfl ?_
  obtain ⟨-, rfl⟩ := so_1 H
  exact x_vret dX5_init_35 rfl
def f_X5_begin (x0 : Nat) (x1 : Nat) (x2 : Int32) (x3 : Nat) (h : aH) : Option (Unit × aH) :=
  ko h x0 5 <|
  ko h x3 4 <|
  bd (f_X4_clear x3 (sR (sI (sI h x0 0 0) x0 1 (-1)) x0 3 (some x3))) fun _ h3 =>
  ko h3 x0 5 <|
  kr (hR h3 x0 2) fun a6 =>
  ko h3 a6 7 <|
  bd (f_X7_begin a6 x1 x2 h3) fun _ h9 =>
  some ((), h9)
set_option maxRecDepth 100000 in
set_option maxHeartbeats 4000000 in
theorem t_X5_begin {Γ : gS} {d : Nat} (hd : 9 ≤ d) {x0 : Nat} {x1 : Nat} {x2 : Int32} {x3 : Nat} {h : aH} {r : Unit} {h' : aH} (H : f_X5_begin x0 x1 x2 x3 h = some (r, h')) : Mx Γ gX5_begin d [.ref x0, .ref x1, .int x2, .ref x3] h none h' := by
  refine Mx.of (by decide +kernel) (Nat.le_of_ble_eq_true rfl) ?_
  unfold f_X5_begin at H
  show Ex Γ gX5_begin d 0 [(0, .ref x0), (1, .ref x1), (2, .int x2), (3, .ref x3)] [] h none h'
  obtain ⟨d, rfl⟩ : ∃ e, d = e + 1 := ⟨d - 1, by omega⟩
  refine x_aload_n dX5_begin_0 rfl 0 rfl ?_
  refine x_iconst (v := 0) dX5_begin_1 (by decide) ?_
  obtain ⟨c1, H⟩ := ko_o H
  refine x_putI fl_X5_13 dX5_begin_2 c1 (fun e => by cases e) rfl ?_
  refine x_aload_n dX5_begin_5 rfl 0 rfl ?_
  refine x_iconst (v := (-1)) dX5_begin_6 (by decide) ?_
  refine x_putI fl_X5_17 dX5_begin_7 c1 (fun e => by cases e) rfl ?_
  refine x_aload_n dX5_begin_10 rfl 0 rfl ?_
  refine x_aload_n dX5_begin_11 rfl 3 rfl ?_
  refine x_putR fl_X5_30 dX5_begin_12 c1 (fun e => by cases e) rfl ?_
  refine x_aload_n dX5_begin_15 rfl 3 rfl ?_
  obtain ⟨c12, H⟩ := ko_o H
  obtain ⟨v2, h3, hc4, H⟩ := bd_o H
  refine x_callVv (As := []) (q := (RX4, TX4, 10)) dX5_begin_16 mi_X4_clear lk_X5_34 im_X4_clear se_X4_clear rfl c12 rfl rfl (Nat.le_of_ble_eq_true rfl) (t_X4_clear (by omega) hc4) ?_
  refine x_aload_n dX5_begin_19 rfl 0 rfl ?_
  obtain ⟨c5, H⟩ := ko_o H
  obtain ⟨a6, c7, H⟩ := kr_o H
  refine x_getR fr_X5_23 dX5_begin_20 c5 rfl c7 ?_
  refine x_aload_n dX5_begin_23 rfl 1 rfl ?_
  refine x_iload_n dX5_begin_24 rfl 2 rfl ?_
  obtain ⟨c11, H⟩ := ko_o H
  obtain ⟨v8, h9, hc10, H⟩ := bd_o H
  refine x_callVv (As := [.ref x1, .int x2]) (q := (RX7, TX7, 6)) dX5_begin_25 mi_X7_begin lk_X5_39 im_X7_begin se_X7_begin rfl c11 rfl rfl (Nat.le_of_ble_eq_true rfl) (t_X7_begin (by omega) hc10) ?_
  obtain ⟨-, rfl⟩ := so_1 H
  exact x_vret dX5_begin_28 rfl
def f_X5_begins (x0 : Nat) (x1 : Int32) (x2 : Int32) (h : aH) : Option (Int32 × aH) :=
  ko h x0 5 <|
  kr (hR h x0 3) fun a2 =>
  ko h a2 4 <|
  bd (f_X4_hasFormula a2 x1 h) fun v4 h5 =>
  if v4 = 0 then
    ko h5 x0 5 <|
    kr (hR h5 x0 2) fun a9 =>
    ko h5 a9 7 <|
    bd (f_X7_next a9 h5) fun _ h12 =>
    ko h12 x0 5 <|
    kr (hR h12 x0 3) fun a15 =>
    ko h12 a15 4 <|
    bd (f_X4_beginFormula a15 x1 (sI h12 x0 4 x2)) fun _ h18 =>
    some (1, h18)
  else
    ko h5 x0 5 <|
    kr (hR h5 x0 2) fun a23 =>
    ko h5 a23 7 <|
    bd (f_X5_fail x0 5 (hI h5 a23 3) h5) fun v26 h27 =>
    chk (narrow .boolean (.int v26) = .int v26) <|
    some (v26, h27)
set_option maxRecDepth 100000 in
set_option maxHeartbeats 4000000 in
theorem t_X5_begins {Γ : gS} {d : Nat} (hd : 8 ≤ d) {x0 : Nat} {x1 : Int32} {x2 : Int32} {h : aH} {r : Int32} {h' : aH} (H : f_X5_begins x0 x1 x2 h = some (r, h')) : Mx Γ gX5_begins d [.ref x0, .int x1, .int x2] h (some (.int r)) h' := by
  refine Mx.of (by decide +kernel) (Nat.le_of_ble_eq_true rfl) ?_
  unfold f_X5_begins at H
  show Ex Γ gX5_begins d 0 [(0, .ref x0), (1, .int x1), (2, .int x2)] [] h (some (.int r)) h'
  obtain ⟨d, rfl⟩ : ∃ e, d = e + 1 := ⟨d - 1, by omega⟩
  refine x_aload_n dX5_begins_0 rfl 0 rfl ?_
  obtain ⟨c1, H⟩ := ko_o H
  obtain ⟨a2, c3, H⟩ := kr_o H
  refine x_getR fr_X5_30 dX5_begins_1 c1 rfl c3 ?_
  refine x_iload_n dX5_begins_4 rfl 1 rfl ?_
  obtain ⟨c30, H⟩ := ko_o H
  obtain ⟨v4, h5, hc6, H⟩ := bd_o H
  refine x_callVi (As := [.int x1]) (q := (RX4, TX4, 10)) dX5_begins_5 mi_X4_hasFormula lk_X5_127 im_X4_hasFormula se_X4_hasFormula rfl c30 rfl rfl (Nat.le_of_ble_eq_true rfl) (t_X4_hasFormula (by omega) hc6) ?_
  refine x_if_eq (tgt := 24) dX5_begins_8 (by decide) (fun c7 => ?_) (fun c7 => ?_)
  · replace H := ite_p H c7
    refine x_aload_n dX5_begins_24 rfl 0 rfl ?_
    obtain ⟨c8, H⟩ := ko_o H
    obtain ⟨a9, c10, H⟩ := kr_o H
    refine x_getR fr_X5_23 dX5_begins_25 c8 rfl c10 ?_
    obtain ⟨c21, H⟩ := ko_o H
    obtain ⟨v11, h12, hc13, H⟩ := bd_o H
    refine x_callVv (As := []) (q := (RX7, TX7, 6)) dX5_begins_28 mi_X7_next lk_X5_97 im_X7_next se_X7_next rfl c21 rfl rfl (Nat.le_of_ble_eq_true rfl) (t_X7_next (by omega) hc13) ?_
    refine x_aload_n dX5_begins_31 rfl 0 rfl ?_
    refine x_iload_n dX5_begins_32 rfl 2 rfl ?_
    obtain ⟨c14, H⟩ := ko_o H
    refine x_putI fl_X5_27 dX5_begins_33 c14 (fun e => by cases e) rfl ?_
    refine x_aload_n dX5_begins_36 rfl 0 rfl ?_
    obtain ⟨a15, c16, H⟩ := kr_o H
    refine x_getR fr_X5_30 dX5_begins_37 c14 rfl c16 ?_
    refine x_iload_n dX5_begins_40 rfl 1 rfl ?_
    obtain ⟨c20, H⟩ := ko_o H
    obtain ⟨v17, h18, hc19, H⟩ := bd_o H
    refine x_callVv (As := [.int x1]) (q := (RX4, TX4, 10)) dX5_begins_41 mi_X4_beginFormula lk_X5_130 im_X4_beginFormula se_X4_beginFormula rfl c20 rfl rfl (Nat.le_of_ble_eq_true rfl) (t_X4_beginFormula (by omega) hc19) ?_
    refine x_iconst (v := 1) dX5_begins_44 (by decide) ?_
    obtain ⟨rfl, rfl⟩ := so_1 H
    exact x_iret dX5_begins_45 rfl (by decide)
  · replace H := ite_m H c7
    refine x_aload_n dX5_begins_11 rfl 0 rfl ?_
    refine x_iconst (v := 5) dX5_begins_12 (by decide) ?_
    refine x_aload_n dX5_begins_13 rfl 0 rfl ?_
    obtain ⟨c22, H⟩ := ko_o H
    obtain ⟨a23, c24, H⟩ := kr_o H
    refine x_getR fr_X5_23 dX5_begins_14 c22 rfl c24 ?_
    obtain ⟨c25, H⟩ := ko_o H
    refine x_getI fr_X5_60 dX5_begins_17 c25 rfl ?_
    obtain ⟨v26, h27, hc28, H⟩ := bd_o H
    refine x_callVi (As := [.int 5, .int (hI h5 a23 3)]) (q := (RX5, TX5, 5)) dX5_begins_20 mi_X5_fail lk_X5_63 im_X5_fail se_X5_fail rfl c22 rfl rfl (Nat.le_of_ble_eq_true rfl) (t_X5_fail (by omega) hc28) ?_
    obtain ⟨c29, H⟩ := chk_o H
    obtain ⟨rfl, rfl⟩ := so_1 H
    exact x_iret dX5_begins_23 rfl c29
def f_X5_ends (x0 : Nat) (x1 : Int32) (h : aH) : Option (Int32 × aH) :=
  ko h x0 5 <|
  kr (hR h x0 3) fun a2 =>
  ko h a2 4 <|
  bd (f_X4_endFormula a2 x1 h) fun _ h5 =>
  some (1, h5)
set_option maxRecDepth 100000 in
set_option maxHeartbeats 4000000 in
theorem t_X5_ends {Γ : gS} {d : Nat} (hd : 1 ≤ d) {x0 : Nat} {x1 : Int32} {h : aH} {r : Int32} {h' : aH} (H : f_X5_ends x0 x1 h = some (r, h')) : Mx Γ gX5_ends d [.ref x0, .int x1] h (some (.int r)) h' := by
  refine Mx.of (by decide +kernel) (Nat.le_of_ble_eq_true rfl) ?_
  unfold f_X5_ends at H
  show Ex Γ gX5_ends d 0 [(0, .ref x0), (1, .int x1)] [] h (some (.int r)) h'
  obtain ⟨d, rfl⟩ : ∃ e, d = e + 1 := ⟨d - 1, by omega⟩
  refine x_aload_n dX5_ends_0 rfl 0 rfl ?_
  obtain ⟨c1, H⟩ := ko_o H
  obtain ⟨a2, c3, H⟩ := kr_o H
  refine x_getR fr_X5_30 dX5_ends_1 c1 rfl c3 ?_
  refine x_iload_n dX5_ends_4 rfl 1 rfl ?_
  obtain ⟨c7, H⟩ := ko_o H
  obtain ⟨v4, h5, hc6, H⟩ := bd_o H
  refine x_callVv (As := [.int x1]) (q := (RX4, TX4, 10)) dX5_ends_5 mi_X4_endFormula lk_X5_134 im_X4_endFormula se_X4_endFormula rfl c7 rfl rfl (Nat.le_of_ble_eq_true rfl) (t_X4_endFormula (by omega) hc6) ?_
  refine x_iconst (v := 1) dX5_ends_8 (by decide) ?_
  obtain ⟨rfl, rfl⟩ := so_1 H
  exact x_iret dX5_ends_9 rfl (by decide)
def f_X5_word (x0 : Nat) (x1 : Int32) (h : aH) : Option (Int32 × aH) :=
  ko h x0 5 <|
  kr (hR h x0 2) fun a2 =>
  ko h a2 7 <|
  bd (f_X7_isWord a2 x1 h) fun v4 h5 =>
  if v4 = 0 then
    ko h5 x0 5 <|
    kr (hR h5 x0 2) fun a16 =>
    ko h5 a16 7 <|
    bd (f_X5_fail x0 1 (hI h5 a16 3) h5) fun v19 h20 =>
    chk (narrow .boolean (.int v19) = .int v19) <|
    some (v19, h20)
  else
    ko h5 x0 5 <|
    kr (hR h5 x0 2) fun a9 =>
    ko h5 a9 7 <|
    bd (f_X7_next a9 h5) fun _ h12 =>
    some (1, h12)
set_option maxRecDepth 100000 in
set_option maxHeartbeats 4000000 in
theorem t_X5_word {Γ : gS} {d : Nat} (hd : 8 ≤ d) {x0 : Nat} {x1 : Int32} {h : aH} {r : Int32} {h' : aH} (H : f_X5_word x0 x1 h = some (r, h')) : Mx Γ gX5_word d [.ref x0, .int x1] h (some (.int r)) h' := by
  refine Mx.of (by decide +kernel) (Nat.le_of_ble_eq_true rfl) ?_
  unfold f_X5_word at H
  show Ex Γ gX5_word d 0 [(0, .ref x0), (1, .int x1)] [] h (some (.int r)) h'
  obtain ⟨d, rfl⟩ : ∃ e, d = e + 1 := ⟨d - 1, by omega⟩
  refine x_aload_n dX5_word_0 rfl 0 rfl ?_
  obtain ⟨c1, H⟩ := ko_o H
  obtain ⟨a2, c3, H⟩ := kr_o H
  refine x_getR fr_X5_23 dX5_word_1 c1 rfl c3 ?_
  refine x_iload_n dX5_word_4 rfl 1 rfl ?_
  obtain ⟨c23, H⟩ := ko_o H
  obtain ⟨v4, h5, hc6, H⟩ := bd_o H
  refine x_callVi (As := [.int x1]) (q := (RX7, TX7, 6)) dX5_word_5 mi_X7_isWord lk_X5_138 im_X7_isWord se_X7_isWord rfl c23 rfl rfl (Nat.le_of_ble_eq_true rfl) (t_X7_isWord (by omega) hc6) ?_
  refine x_if_ne (tgt := 24) dX5_word_8 (by decide) (fun c7 => ?_) (fun c7 => ?_)
  · replace H := ite_m H c7
    refine x_aload_n dX5_word_24 rfl 0 rfl ?_
    obtain ⟨c8, H⟩ := ko_o H
    obtain ⟨a9, c10, H⟩ := kr_o H
    refine x_getR fr_X5_23 dX5_word_25 c8 rfl c10 ?_
    obtain ⟨c14, H⟩ := ko_o H
    obtain ⟨v11, h12, hc13, H⟩ := bd_o H
    refine x_callVv (As := []) (q := (RX7, TX7, 6)) dX5_word_28 mi_X7_next lk_X5_97 im_X7_next se_X7_next rfl c14 rfl rfl (Nat.le_of_ble_eq_true rfl) (t_X7_next (by omega) hc13) ?_
    refine x_iconst (v := 1) dX5_word_31 (by decide) ?_
    obtain ⟨rfl, rfl⟩ := so_1 H
    exact x_iret dX5_word_32 rfl (by decide)
  · replace H := ite_p H c7
    refine x_aload_n dX5_word_11 rfl 0 rfl ?_
    refine x_iconst (v := 1) dX5_word_12 (by decide) ?_
    refine x_aload_n dX5_word_13 rfl 0 rfl ?_
    obtain ⟨c15, H⟩ := ko_o H
    obtain ⟨a16, c17, H⟩ := kr_o H
    refine x_getR fr_X5_23 dX5_word_14 c15 rfl c17 ?_
    obtain ⟨c18, H⟩ := ko_o H
    refine x_getI fr_X5_60 dX5_word_17 c18 rfl ?_
    obtain ⟨v19, h20, hc21, H⟩ := bd_o H
    refine x_callVi (As := [.int 1, .int (hI h5 a16 3)]) (q := (RX5, TX5, 5)) dX5_word_20 mi_X5_fail lk_X5_63 im_X5_fail se_X5_fail rfl c15 rfl rfl (Nat.le_of_ble_eq_true rfl) (t_X5_fail (by omega) hc21) ?_
    obtain ⟨c22, H⟩ := chk_o H
    obtain ⟨rfl, rfl⟩ := so_1 H
    exact x_iret dX5_word_23 rfl c22
def f_X5_memoryStatement_20 (h : aH) : Option (Int32 × aH) :=
  some (0, h)
set_option maxRecDepth 100000 in
set_option maxHeartbeats 4000000 in
theorem t_X5_memoryStatement_20 {Γ : gS} {d : Nat} (hd : 9 ≤ d) {h : aH} {r : Int32} {h' : aH} (H : f_X5_memoryStatement_20 h = some (r, h')) : Ex Γ gX5_memoryStatement d 20 [] [] h (some (.int r)) h' := by
  unfold f_X5_memoryStatement_20 at H
  obtain ⟨d, rfl⟩ : ∃ e, d = e + 1 := ⟨d - 1, by omega⟩
  refine x_iconst (v := 0) dX5_memoryStatement_20 (by decide) ?_
  obtain ⟨rfl, rfl⟩ := so_1 H
  exact x_iret dX5_memoryStatement_21 rfl (by decide)
def f_X5_memoryStatement_58 (h : aH) : Option (Int32 × aH) :=
  some (0, h)
set_option maxRecDepth 100000 in
set_option maxHeartbeats 4000000 in
theorem t_X5_memoryStatement_58 {Γ : gS} {d : Nat} (hd : 9 ≤ d) {h : aH} {r : Int32} {h' : aH} (H : f_X5_memoryStatement_58 h = some (r, h')) : Ex Γ gX5_memoryStatement d 58 [] [] h (some (.int r)) h' := by
  unfold f_X5_memoryStatement_58 at H
  obtain ⟨d, rfl⟩ : ∃ e, d = e + 1 := ⟨d - 1, by omega⟩
  refine x_iconst (v := 0) dX5_memoryStatement_58 (by decide) ?_
  obtain ⟨rfl, rfl⟩ := so_1 H
  exact x_iret dX5_memoryStatement_59 rfl (by decide)
def f_X5_memoryStatement (x0 : Nat) (x1 : Nat) (h : aH) : Option (Int32 × aH) :=
  ko h x0 5 <|
  bd (f_X5_word x0 0 h) fun v1 h2 =>
  if v1 = 0 then
    f_X5_memoryStatement_20 h2
  else
    ko h2 x0 5 <|
    bd (f_X5_number x0 64 1024 h2) fun v5 h6 =>
    if v5 = 0 then
      f_X5_memoryStatement_20 h6
    else
      ko h6 x0 5 <|
      kr (hR h6 x0 2) fun a10 =>
      ko h6 a10 7 <|
      ko h6 x1 4 <|
      bd (f_X7_next a10 (sI h6 x1 1 (hI h6 a10 5))) fun _ h15 =>
      ko h15 x0 5 <|
      bd (f_X5_word x0 1 h15) fun v17 h18 =>
      if v17 = 0 then
        f_X5_memoryStatement_58 h18
      else
        ko h18 x0 5 <|
        bd (f_X5_number x0 4 8 h18) fun v21 h22 =>
        if v21 = 0 then
          f_X5_memoryStatement_58 h22
        else
          ko h22 x0 5 <|
          kr (hR h22 x0 2) fun a26 =>
          ko h22 a26 7 <|
          ko h22 x1 4 <|
          bd (f_X7_next a26 (sI h22 x1 2 (hI h22 a26 5))) fun _ h31 =>
          some (1, h31)
set_option maxRecDepth 100000 in
set_option maxHeartbeats 4000000 in
theorem t_X5_memoryStatement {Γ : gS} {d : Nat} (hd : 9 ≤ d) {x0 : Nat} {x1 : Nat} {h : aH} {r : Int32} {h' : aH} (H : f_X5_memoryStatement x0 x1 h = some (r, h')) : Mx Γ gX5_memoryStatement d [.ref x0, .ref x1] h (some (.int r)) h' := by
  refine Mx.of (by decide +kernel) (Nat.le_of_ble_eq_true rfl) ?_
  unfold f_X5_memoryStatement at H
  show Ex Γ gX5_memoryStatement d 0 [(0, .ref x0), (1, .ref x1)] [] h (some (.int r)) h'
  obtain ⟨d, rfl⟩ : ∃ e, d = e + 1 := ⟨d - 1, by omega⟩
  refine x_aload_n dX5_memoryStatement_0 rfl 0 rfl ?_
  refine x_iconst (v := 0) dX5_memoryStatement_1 (by decide) ?_
  obtain ⟨c36, H⟩ := ko_o H
  obtain ⟨v1, h2, hc3, H⟩ := bd_o H
  refine x_callVi (As := [.int 0]) (q := (RX5, TX5, 5)) dX5_memoryStatement_2 mi_X5_word lk_X5_88 im_X5_word se_X5_word rfl c36 rfl rfl (Nat.le_of_ble_eq_true rfl) (t_X5_word (by omega) hc3) ?_
  refine x_if_eq (tgt := 20) dX5_memoryStatement_5 (by decide) (fun c4 => ?_) (fun c4 => ?_)
  · replace H := ite_p H c4
    refine Ex.sub [] rfl ?_
    exact t_X5_memoryStatement_20 hd H
  · replace H := ite_m H c4
    refine x_aload_n dX5_memoryStatement_8 rfl 0 rfl ?_
    refine x_bipush (v := 64) dX5_memoryStatement_9 (by decide) ?_
    refine x_sipush (v := 1024) dX5_memoryStatement_11 (by decide) ?_
    obtain ⟨c35, H⟩ := ko_o H
    obtain ⟨v5, h6, hc7, H⟩ := bd_o H
    refine x_callVi (As := [.int 64, .int 1024]) (q := (RX5, TX5, 5)) dX5_memoryStatement_14 mi_X5_number lk_X5_91 im_X5_number se_X5_number rfl c35 rfl rfl (Nat.le_of_ble_eq_true rfl) (t_X5_number (by omega) hc7) ?_
    refine x_if_ne (tgt := 22) dX5_memoryStatement_17 (by decide) (fun c8 => ?_) (fun c8 => ?_)
    · replace H := ite_m H c8
      refine x_aload_n dX5_memoryStatement_22 rfl 1 rfl ?_
      refine x_aload_n dX5_memoryStatement_23 rfl 0 rfl ?_
      obtain ⟨c9, H⟩ := ko_o H
      obtain ⟨a10, c11, H⟩ := kr_o H
      refine x_getR fr_X5_23 dX5_memoryStatement_24 c9 rfl c11 ?_
      obtain ⟨c12, H⟩ := ko_o H
      refine x_getI fr_X5_70 dX5_memoryStatement_27 c12 rfl ?_
      obtain ⟨c13, H⟩ := ko_o H
      refine x_putI fl_X5_94 dX5_memoryStatement_30 c13 (fun e => by cases e) rfl ?_
      refine x_aload_n dX5_memoryStatement_33 rfl 0 rfl ?_
      refine x_getR fr_X5_23 dX5_memoryStatement_34 c9 rfl c11 ?_
      obtain ⟨v14, h15, hc16, H⟩ := bd_o H
      refine x_callVv (As := []) (q := (RX7, TX7, 6)) dX5_memoryStatement_37 mi_X7_next lk_X5_97 im_X7_next se_X7_next rfl c12 rfl rfl (Nat.le_of_ble_eq_true rfl) (t_X7_next (by omega) hc16) ?_
      refine x_aload_n dX5_memoryStatement_40 rfl 0 rfl ?_
      refine x_iconst (v := 1) dX5_memoryStatement_41 (by decide) ?_
      obtain ⟨c34, H⟩ := ko_o H
      obtain ⟨v17, h18, hc19, H⟩ := bd_o H
      refine x_callVi (As := [.int 1]) (q := (RX5, TX5, 5)) dX5_memoryStatement_42 mi_X5_word lk_X5_88 im_X5_word se_X5_word rfl c34 rfl rfl (Nat.le_of_ble_eq_true rfl) (t_X5_word (by omega) hc19) ?_
      refine x_if_eq (tgt := 58) dX5_memoryStatement_45 (by decide) (fun c20 => ?_) (fun c20 => ?_)
      · replace H := ite_p H c20
        refine Ex.sub [] rfl ?_
        exact t_X5_memoryStatement_58 hd H
      · replace H := ite_m H c20
        refine x_aload_n dX5_memoryStatement_48 rfl 0 rfl ?_
        refine x_iconst (v := 4) dX5_memoryStatement_49 (by decide) ?_
        refine x_bipush (v := 8) dX5_memoryStatement_50 (by decide) ?_
        obtain ⟨c33, H⟩ := ko_o H
        obtain ⟨v21, h22, hc23, H⟩ := bd_o H
        refine x_callVi (As := [.int 4, .int 8]) (q := (RX5, TX5, 5)) dX5_memoryStatement_52 mi_X5_number lk_X5_91 im_X5_number se_X5_number rfl c33 rfl rfl (Nat.le_of_ble_eq_true rfl) (t_X5_number (by omega) hc23) ?_
        refine x_if_ne (tgt := 60) dX5_memoryStatement_55 (by decide) (fun c24 => ?_) (fun c24 => ?_)
        · replace H := ite_m H c24
          refine x_aload_n dX5_memoryStatement_60 rfl 1 rfl ?_
          refine x_aload_n dX5_memoryStatement_61 rfl 0 rfl ?_
          obtain ⟨c25, H⟩ := ko_o H
          obtain ⟨a26, c27, H⟩ := kr_o H
          refine x_getR fr_X5_23 dX5_memoryStatement_62 c25 rfl c27 ?_
          obtain ⟨c28, H⟩ := ko_o H
          refine x_getI fr_X5_70 dX5_memoryStatement_65 c28 rfl ?_
          obtain ⟨c29, H⟩ := ko_o H
          refine x_putI fl_X5_100 dX5_memoryStatement_68 c29 (fun e => by cases e) rfl ?_
          refine x_aload_n dX5_memoryStatement_71 rfl 0 rfl ?_
          refine x_getR fr_X5_23 dX5_memoryStatement_72 c25 rfl c27 ?_
          obtain ⟨v30, h31, hc32, H⟩ := bd_o H
          refine x_callVv (As := []) (q := (RX7, TX7, 6)) dX5_memoryStatement_75 mi_X7_next lk_X5_97 im_X7_next se_X7_next rfl c28 rfl rfl (Nat.le_of_ble_eq_true rfl) (t_X7_next (by omega) hc32) ?_
          refine x_iconst (v := 1) dX5_memoryStatement_78 (by decide) ?_
          obtain ⟨rfl, rfl⟩ := so_1 H
          exact x_iret dX5_memoryStatement_79 rfl (by decide)
        · replace H := ite_p H c24
          refine Ex.sub [] rfl ?_
          exact t_X5_memoryStatement_58 hd H
    · replace H := ite_p H c8
      refine Ex.sub [] rfl ?_
      exact t_X5_memoryStatement_20 hd H
def f_X5_name_43 (x0 : Nat) (h : aH) : Option (Int32 × aH) :=
  ko h x0 5 <|
  kr (hR h x0 2) fun a2 =>
  ko h a2 7 <|
  bd (f_X5_fail x0 1 (hI h a2 3) h) fun v5 h6 =>
  chk (narrow .boolean (.int v5) = .int v5) <|
  some (v5, h6)
set_option maxRecDepth 100000 in
set_option maxHeartbeats 4000000 in
theorem t_X5_name_43 {Γ : gS} {d : Nat} (hd : 8 ≤ d) {x0 : Nat} {h : aH} {r : Int32} {h' : aH} (H : f_X5_name_43 x0 h = some (r, h')) : Ex Γ gX5_name d 43 [(0, .ref x0)] [] h (some (.int r)) h' := by
  unfold f_X5_name_43 at H
  obtain ⟨d, rfl⟩ : ∃ e, d = e + 1 := ⟨d - 1, by omega⟩
  refine x_aload_n dX5_name_43 rfl 0 rfl ?_
  refine x_iconst (v := 1) dX5_name_44 (by decide) ?_
  refine x_aload_n dX5_name_45 rfl 0 rfl ?_
  obtain ⟨c1, H⟩ := ko_o H
  obtain ⟨a2, c3, H⟩ := kr_o H
  refine x_getR fr_X5_23 dX5_name_46 c1 rfl c3 ?_
  obtain ⟨c4, H⟩ := ko_o H
  refine x_getI fr_X5_60 dX5_name_49 c4 rfl ?_
  obtain ⟨v5, h6, hc7, H⟩ := bd_o H
  refine x_callVi (As := [.int 1, .int (hI h a2 3)]) (q := (RX5, TX5, 5)) dX5_name_52 mi_X5_fail lk_X5_63 im_X5_fail se_X5_fail rfl c1 rfl rfl (Nat.le_of_ble_eq_true rfl) (t_X5_fail (by omega) hc7) ?_
  obtain ⟨c8, H⟩ := chk_o H
  obtain ⟨rfl, rfl⟩ := so_1 H
  exact x_iret dX5_name_55 rfl c8
def f_X5_name_27 (x0 : Nat) (x1 : Nat) (s0 : Int32) (h : aH) : Option (Int32 × aH) :=
  ko h x0 5 <|
  kr (hR h x0 2) fun a10 =>
  ko h a10 7 <|
  if (hI h a10 2) = 1 then
    if s0 = 0 then
      nm ((hI h a10 4) - (hI h a10 3)) fun (v15 : Int32) =>
      if v15 ≤ 6 then
        ko h x1 4 <|
        kr (hR h a10 0) fun a18 =>
        bd (f_X4_setName x1 (hI h x1 3) a18 (hI h a10 3) v15 h) fun _ h21 =>
        ko h21 x1 4 <|
        bd (f_X4_hasNameTwice x1 (hI h21 x1 3) h21) fun v24 h25 =>
        if v24 = 0 then
          ko h25 x0 5 <|
          kr (hR h25 x0 2) fun a29 =>
          ko h25 a29 7 <|
          bd (f_X7_next a29 h25) fun _ h32 =>
          some (1, h32)
        else
          ko h25 x0 5 <|
          kr (hR h25 x0 2) fun a36 =>
          ko h25 a36 7 <|
          bd (f_X5_fail x0 3 (hI h25 a36 3) h25) fun v39 h40 =>
          chk (narrow .boolean (.int v39) = .int v39) <|
          some (v39, h40)
      else
        bd (f_X5_fail x0 1 ((hI h a10 3) + 6) h) fun v43 h44 =>
        chk (narrow .boolean (.int v43) = .int v43) <|
        some (v43, h44)
    else
      f_X5_name_43 x0 h
  else
    f_X5_name_43 x0 h
set_option maxRecDepth 100000 in
set_option maxHeartbeats 4000000 in
theorem t_X5_name_27 {Γ : gS} {d : Nat} (hd : 8 ≤ d) {x0 : Nat} {x1 : Nat} {s0 : Int32} {h : aH} {r : Int32} {h' : aH} (H : f_X5_name_27 x0 x1 s0 h = some (r, h')) : Ex Γ gX5_name d 27 [(0, .ref x0), (1, .ref x1)] [.int s0] h (some (.int r)) h' := by
  unfold f_X5_name_27 at H
  obtain ⟨d, rfl⟩ : ∃ e, d = e + 1 := ⟨d - 1, by omega⟩
  refine x_istore_n (lv' := [(2, .int s0), (0, .ref x0), (1, .ref x1)]) dX5_name_27 rfl (by decide) rfl rfl ?_
  refine x_aload_n dX5_name_28 rfl 1 rfl ?_
  obtain ⟨c9, H⟩ := ko_o H
  obtain ⟨a10, c11, H⟩ := kr_o H
  refine x_getR fr_X5_23 dX5_name_29 c9 rfl c11 ?_
  obtain ⟨c12, H⟩ := ko_o H
  refine x_getI fr_X5_46 dX5_name_32 c12 rfl ?_
  refine x_iconst (v := 1) dX5_name_35 (by decide) ?_
  refine x_icmp_ne (tgt := 43) dX5_name_36 (by decide) (fun c13 => ?_) (fun c13 => ?_)
  · replace H := ite_m H c13
    refine Ex.sub [1] rfl ?_
    exact t_X5_name_43 hd H
  · replace H := ite_p H c13
    refine x_iload_n dX5_name_39 rfl 0 rfl ?_
    refine x_if_eq (tgt := 56) dX5_name_40 (by decide) (fun c14 => ?_) (fun c14 => ?_)
    · replace H := ite_p H c14
      refine x_aload_n dX5_name_56 rfl 1 rfl ?_
      refine x_getR fr_X5_23 dX5_name_57 c9 rfl c11 ?_
      refine x_getI fr_X5_113 dX5_name_60 c12 rfl ?_
      refine x_aload_n dX5_name_63 rfl 1 rfl ?_
      refine x_getR fr_X5_23 dX5_name_64 c9 rfl c11 ?_
      refine x_getI fr_X5_60 dX5_name_67 c12 rfl ?_
      refine x_isub dX5_name_70 ?_
      obtain ⟨v15, ev15, H⟩ := nm_o H
      refine x_istore_n (lv' := [(3, .int v15), (2, .int s0), (0, .ref x0), (1, .ref x1)]) dX5_name_71 rfl (by decide) ev15 rfl ?_
      refine x_iload_n dX5_name_72 rfl 0 rfl ?_
      refine x_bipush (v := 6) dX5_name_73 (by decide) ?_
      refine x_icmp_le (tgt := 94) dX5_name_75 (by decide) (fun c16 => ?_) (fun c16 => ?_)
      · replace H := ite_p H c16
        refine x_aload_n dX5_name_94 rfl 3 rfl ?_
        refine x_aload_n dX5_name_95 rfl 3 rfl ?_
        obtain ⟨c17, H⟩ := ko_o H
        refine x_getI fr_X5_103 dX5_name_96 c17 rfl ?_
        refine x_aload_n dX5_name_99 rfl 2 rfl ?_
        refine x_getR fr_X5_23 dX5_name_100 c9 rfl c11 ?_
        obtain ⟨a18, c19, H⟩ := kr_o H
        refine x_getR fr_X5_116 dX5_name_103 c12 rfl c19 ?_
        refine x_aload_n dX5_name_106 rfl 2 rfl ?_
        refine x_getR fr_X5_23 dX5_name_107 c9 rfl c11 ?_
        refine x_getI fr_X5_60 dX5_name_110 c12 rfl ?_
        refine x_iload_n dX5_name_113 rfl 0 rfl ?_
        obtain ⟨v20, h21, hc22, H⟩ := bd_o H
        refine x_callVv (As := [.int (hI h x1 3), .ref a18, .int (hI h a10 3), .int v15]) (q := (RX4, TX4, 10)) dX5_name_114 mi_X4_setName lk_X5_120 im_X4_setName se_X4_setName rfl c17 rfl rfl (Nat.le_of_ble_eq_true rfl) (t_X4_setName (by omega) hc22) ?_
        refine x_aload_n dX5_name_117 rfl 3 rfl ?_
        refine x_aload_n dX5_name_118 rfl 3 rfl ?_
        obtain ⟨c23, H⟩ := ko_o H
        refine x_getI fr_X5_103 dX5_name_119 c23 rfl ?_
        obtain ⟨v24, h25, hc26, H⟩ := bd_o H
        refine x_callVi (As := [.int (hI h21 x1 3)]) (q := (RX4, TX4, 10)) dX5_name_122 mi_X4_hasNameTwice lk_X5_124 im_X4_hasNameTwice se_X4_hasNameTwice rfl c23 rfl rfl (Nat.le_of_ble_eq_true rfl) (t_X4_hasNameTwice (by omega) hc26) ?_
        refine x_if_eq (tgt := 141) dX5_name_125 (by decide) (fun c27 => ?_) (fun c27 => ?_)
        · replace H := ite_p H c27
          refine x_aload_n dX5_name_141 rfl 2 rfl ?_
          obtain ⟨c28, H⟩ := ko_o H
          obtain ⟨a29, c30, H⟩ := kr_o H
          refine x_getR fr_X5_23 dX5_name_142 c28 rfl c30 ?_
          obtain ⟨c34, H⟩ := ko_o H
          obtain ⟨v31, h32, hc33, H⟩ := bd_o H
          refine x_callVv (As := []) (q := (RX7, TX7, 6)) dX5_name_145 mi_X7_next lk_X5_97 im_X7_next se_X7_next rfl c34 rfl rfl (Nat.le_of_ble_eq_true rfl) (t_X7_next (by omega) hc33) ?_
          refine x_iconst (v := 1) dX5_name_148 (by decide) ?_
          obtain ⟨rfl, rfl⟩ := so_1 H
          exact x_iret dX5_name_149 rfl (by decide)
        · replace H := ite_m H c27
          refine x_aload_n dX5_name_128 rfl 2 rfl ?_
          refine x_iconst (v := 3) dX5_name_129 (by decide) ?_
          refine x_aload_n dX5_name_130 rfl 2 rfl ?_
          obtain ⟨c35, H⟩ := ko_o H
          obtain ⟨a36, c37, H⟩ := kr_o H
          refine x_getR fr_X5_23 dX5_name_131 c35 rfl c37 ?_
          obtain ⟨c38, H⟩ := ko_o H
          refine x_getI fr_X5_60 dX5_name_134 c38 rfl ?_
          obtain ⟨v39, h40, hc41, H⟩ := bd_o H
          refine x_callVi (As := [.int 3, .int (hI h25 a36 3)]) (q := (RX5, TX5, 5)) dX5_name_137 mi_X5_fail lk_X5_63 im_X5_fail se_X5_fail rfl c35 rfl rfl (Nat.le_of_ble_eq_true rfl) (t_X5_fail (by omega) hc41) ?_
          obtain ⟨c42, H⟩ := chk_o H
          obtain ⟨rfl, rfl⟩ := so_1 H
          exact x_iret dX5_name_140 rfl c42
      · replace H := ite_m H c16
        refine x_aload_n dX5_name_78 rfl 2 rfl ?_
        refine x_iconst (v := 1) dX5_name_79 (by decide) ?_
        refine x_aload_n dX5_name_80 rfl 2 rfl ?_
        refine x_getR fr_X5_23 dX5_name_81 c9 rfl c11 ?_
        refine x_getI fr_X5_60 dX5_name_84 c12 rfl ?_
        refine x_bipush (v := 6) dX5_name_87 (by decide) ?_
        refine x_iadd dX5_name_89 ?_
        obtain ⟨v43, h44, hc45, H⟩ := bd_o H
        refine x_callVi (As := [.int 1, .int ((hI h a10 3) + 6)]) (q := (RX5, TX5, 5)) dX5_name_90 mi_X5_fail lk_X5_63 im_X5_fail se_X5_fail rfl c9 rfl rfl (Nat.le_of_ble_eq_true rfl) (t_X5_fail (by omega) hc45) ?_
        obtain ⟨c46, H⟩ := chk_o H
        obtain ⟨rfl, rfl⟩ := so_1 H
        exact x_iret dX5_name_93 rfl c46
    · replace H := ite_m H c14
      refine Ex.sub [1] rfl ?_
      exact t_X5_name_43 hd H
def f_X5_name_26 (x0 : Nat) (x1 : Nat) (h : aH) : Option (Int32 × aH) :=
  f_X5_name_27 x0 x1 0 h
set_option maxRecDepth 100000 in
set_option maxHeartbeats 4000000 in
theorem t_X5_name_26 {Γ : gS} {d : Nat} (hd : 8 ≤ d) {x0 : Nat} {x1 : Nat} {h : aH} {r : Int32} {h' : aH} (H : f_X5_name_26 x0 x1 h = some (r, h')) : Ex Γ gX5_name d 26 [(0, .ref x0), (1, .ref x1)] [] h (some (.int r)) h' := by
  unfold f_X5_name_26 at H
  obtain ⟨d, rfl⟩ : ∃ e, d = e + 1 := ⟨d - 1, by omega⟩
  refine x_iconst (v := 0) dX5_name_26 (by decide) ?_
  exact t_X5_name_27 hd H
def f_X5_name (x0 : Nat) (x1 : Nat) (h : aH) : Option (Int32 × aH) :=
  ko h x0 5 <|
  kr (hR h x0 2) fun a48 =>
  ko h a48 7 <|
  if (hI h a48 5) < 0 then
    f_X5_name_26 x0 x1 h
  else
    if 25 ≤ (hI h a48 5) then
      f_X5_name_26 x0 x1 h
    else
      f_X5_name_27 x0 x1 1 h
set_option maxRecDepth 100000 in
set_option maxHeartbeats 4000000 in
theorem t_X5_name {Γ : gS} {d : Nat} (hd : 8 ≤ d) {x0 : Nat} {x1 : Nat} {h : aH} {r : Int32} {h' : aH} (H : f_X5_name x0 x1 h = some (r, h')) : Mx Γ gX5_name d [.ref x0, .ref x1] h (some (.int r)) h' := by
  refine Mx.of (by decide +kernel) (Nat.le_of_ble_eq_true rfl) ?_
  unfold f_X5_name at H
  show Ex Γ gX5_name d 0 [(0, .ref x0), (1, .ref x1)] [] h (some (.int r)) h'
  obtain ⟨d, rfl⟩ : ∃ e, d = e + 1 := ⟨d - 1, by omega⟩
  refine x_aload_n dX5_name_0 rfl 0 rfl ?_
  obtain ⟨c47, H⟩ := ko_o H
  obtain ⟨a48, c49, H⟩ := kr_o H
  refine x_getR fr_X5_23 dX5_name_1 c47 rfl c49 ?_
  obtain ⟨c50, H⟩ := ko_o H
  refine x_getI fr_X5_70 dX5_name_4 c50 rfl ?_
  refine x_if_lt (tgt := 26) dX5_name_7 (by decide) (fun c51 => ?_) (fun c51 => ?_)
  · replace H := ite_p H c51
    exact t_X5_name_26 hd H
  · replace H := ite_m H c51
    refine x_aload_n dX5_name_10 rfl 0 rfl ?_
    refine x_getR fr_X5_23 dX5_name_11 c47 rfl c49 ?_
    refine x_getI fr_X5_70 dX5_name_14 c50 rfl ?_
    refine x_bipush (v := 25) dX5_name_17 (by decide) ?_
    refine x_icmp_ge (tgt := 26) dX5_name_19 (by decide) (fun c52 => ?_) (fun c52 => ?_)
    · replace H := ite_p H c52
      exact t_X5_name_26 hd H
    · replace H := ite_m H c52
      refine x_iconst (v := 1) dX5_name_22 (by decide) ?_
      refine x_goto (tgt := 27) dX5_name_23 (by decide) ?_
      exact t_X5_name_27 hd H
def f_X5_shelfStatement_54 (h : aH) : Option (Int32 × aH) :=
  some (0, h)
set_option maxRecDepth 100000 in
set_option maxHeartbeats 4000000 in
theorem t_X5_shelfStatement_54 {Γ : gS} {d : Nat} (hd : 9 ≤ d) {h : aH} {r : Int32} {h' : aH} (H : f_X5_shelfStatement_54 h = some (r, h')) : Ex Γ gX5_shelfStatement d 54 [] [] h (some (.int r)) h' := by
  unfold f_X5_shelfStatement_54 at H
  obtain ⟨d, rfl⟩ : ∃ e, d = e + 1 := ⟨d - 1, by omega⟩
  refine x_iconst (v := 0) dX5_shelfStatement_54 (by decide) ?_
  obtain ⟨rfl, rfl⟩ := so_1 H
  exact x_iret dX5_shelfStatement_55 rfl (by decide)
def f_X5_shelfStatement (x0 : Nat) (x1 : Nat) (h : aH) : Option (Int32 × aH) :=
  ko h x1 4 <|
  if (hI h x1 3) < 4 then
    ko h x0 5 <|
    kr (hR h x0 2) fun a4 =>
    ko h a4 7 <|
    bd (f_X7_next a4 h) fun _ h7 =>
    ko h7 x0 5 <|
    bd (f_X5_name x0 x1 h7) fun v9 h10 =>
    if v9 = 0 then
      f_X5_shelfStatement_54 h10
    else
      ko h10 x0 5 <|
      bd (f_X5_word x0 3 h10) fun v13 h14 =>
      if v13 = 0 then
        f_X5_shelfStatement_54 h14
      else
        ko h14 x0 5 <|
        bd (f_X5_number x0 1 7 h14) fun v17 h18 =>
        if v17 = 0 then
          f_X5_shelfStatement_54 h18
        else
          ko h18 x1 4 <|
          kr (hR h18 x1 5) fun a22 =>
          ko h18 x0 5 <|
          kr (hR h18 x0 2) fun a25 =>
          ko h18 a25 7 <|
          ka h18 a22 .int fun n29 =>
          chk (inb (hI h18 x1 3) n29 = true) <|
          nm (hI (sI h18 a22 (hI h18 x1 3 : Int32).toNatClampNeg (hI h18 a25 5)) x1 3) fun (v31 : Int32) =>
          bd (f_X7_next a25 (sI (sI h18 a22 (hI h18 x1 3 : Int32).toNatClampNeg (hI h18 a25 5)) x1 3 (v31 + 1))) fun _ h33 =>
          some (1, h33)
  else
    ko h x0 5 <|
    kr (hR h x0 2) fun a40 =>
    ko h a40 7 <|
    bd (f_X5_fail x0 5 (hI h a40 3) h) fun v43 h44 =>
    chk (narrow .boolean (.int v43) = .int v43) <|
    some (v43, h44)
set_option maxRecDepth 100000 in
set_option maxHeartbeats 4000000 in
theorem t_X5_shelfStatement {Γ : gS} {d : Nat} (hd : 9 ≤ d) {x0 : Nat} {x1 : Nat} {h : aH} {r : Int32} {h' : aH} (H : f_X5_shelfStatement x0 x1 h = some (r, h')) : Mx Γ gX5_shelfStatement d [.ref x0, .ref x1] h (some (.int r)) h' := by
  refine Mx.of (by decide +kernel) (Nat.le_of_ble_eq_true rfl) ?_
  unfold f_X5_shelfStatement at H
  show Ex Γ gX5_shelfStatement d 0 [(0, .ref x0), (1, .ref x1)] [] h (some (.int r)) h'
  obtain ⟨d, rfl⟩ : ∃ e, d = e + 1 := ⟨d - 1, by omega⟩
  refine x_aload_n dX5_shelfStatement_0 rfl 1 rfl ?_
  obtain ⟨c1, H⟩ := ko_o H
  refine x_getI fr_X5_103 dX5_shelfStatement_1 c1 rfl ?_
  refine x_iconst (v := 4) dX5_shelfStatement_4 (by decide) ?_
  refine x_icmp_lt (tgt := 21) dX5_shelfStatement_5 (by decide) (fun c2 => ?_) (fun c2 => ?_)
  · replace H := ite_p H c2
    refine x_aload_n dX5_shelfStatement_21 rfl 0 rfl ?_
    obtain ⟨c3, H⟩ := ko_o H
    obtain ⟨a4, c5, H⟩ := kr_o H
    refine x_getR fr_X5_23 dX5_shelfStatement_22 c3 rfl c5 ?_
    obtain ⟨c38, H⟩ := ko_o H
    obtain ⟨v6, h7, hc8, H⟩ := bd_o H
    refine x_callVv (As := []) (q := (RX7, TX7, 6)) dX5_shelfStatement_25 mi_X7_next lk_X5_97 im_X7_next se_X7_next rfl c38 rfl rfl (Nat.le_of_ble_eq_true rfl) (t_X7_next (by omega) hc8) ?_
    refine x_aload_n dX5_shelfStatement_28 rfl 0 rfl ?_
    refine x_aload_n dX5_shelfStatement_29 rfl 1 rfl ?_
    obtain ⟨c37, H⟩ := ko_o H
    obtain ⟨v9, h10, hc11, H⟩ := bd_o H
    refine x_callVi (As := [.ref x1]) (q := (RX5, TX5, 5)) dX5_shelfStatement_30 mi_X5_name lk_X5_106 im_X5_name se_X5_name rfl c37 rfl rfl (Nat.le_of_ble_eq_true rfl) (t_X5_name (by omega) hc11) ?_
    refine x_if_eq (tgt := 54) dX5_shelfStatement_33 (by decide) (fun c12 => ?_) (fun c12 => ?_)
    · replace H := ite_p H c12
      refine Ex.sub [] rfl ?_
      exact t_X5_shelfStatement_54 hd H
    · replace H := ite_m H c12
      refine x_aload_n dX5_shelfStatement_36 rfl 0 rfl ?_
      refine x_iconst (v := 3) dX5_shelfStatement_37 (by decide) ?_
      obtain ⟨c36, H⟩ := ko_o H
      obtain ⟨v13, h14, hc15, H⟩ := bd_o H
      refine x_callVi (As := [.int 3]) (q := (RX5, TX5, 5)) dX5_shelfStatement_38 mi_X5_word lk_X5_88 im_X5_word se_X5_word rfl c36 rfl rfl (Nat.le_of_ble_eq_true rfl) (t_X5_word (by omega) hc15) ?_
      refine x_if_eq (tgt := 54) dX5_shelfStatement_41 (by decide) (fun c16 => ?_) (fun c16 => ?_)
      · replace H := ite_p H c16
        refine Ex.sub [] rfl ?_
        exact t_X5_shelfStatement_54 hd H
      · replace H := ite_m H c16
        refine x_aload_n dX5_shelfStatement_44 rfl 0 rfl ?_
        refine x_iconst (v := 1) dX5_shelfStatement_45 (by decide) ?_
        refine x_bipush (v := 7) dX5_shelfStatement_46 (by decide) ?_
        obtain ⟨c35, H⟩ := ko_o H
        obtain ⟨v17, h18, hc19, H⟩ := bd_o H
        refine x_callVi (As := [.int 1, .int 7]) (q := (RX5, TX5, 5)) dX5_shelfStatement_48 mi_X5_number lk_X5_91 im_X5_number se_X5_number rfl c35 rfl rfl (Nat.le_of_ble_eq_true rfl) (t_X5_number (by omega) hc19) ?_
        refine x_if_ne (tgt := 56) dX5_shelfStatement_51 (by decide) (fun c20 => ?_) (fun c20 => ?_)
        · replace H := ite_m H c20
          refine x_aload_n dX5_shelfStatement_56 rfl 1 rfl ?_
          obtain ⟨c21, H⟩ := ko_o H
          obtain ⟨a22, c23, H⟩ := kr_o H
          refine x_getR fr_X5_109 dX5_shelfStatement_57 c21 rfl c23 ?_
          refine x_aload_n dX5_shelfStatement_60 rfl 1 rfl ?_
          refine x_getI fr_X5_103 dX5_shelfStatement_61 c21 rfl ?_
          refine x_aload_n dX5_shelfStatement_64 rfl 0 rfl ?_
          obtain ⟨c24, H⟩ := ko_o H
          obtain ⟨a25, c26, H⟩ := kr_o H
          refine x_getR fr_X5_23 dX5_shelfStatement_65 c24 rfl c26 ?_
          obtain ⟨c27, H⟩ := ko_o H
          refine x_getI fr_X5_70 dX5_shelfStatement_68 c27 rfl ?_
          obtain ⟨n29, c28, H⟩ := ka_o H
          obtain ⟨c30, H⟩ := chk_o H
          refine x_iast dX5_shelfStatement_71 c28 (inb_in.mp c30) ?_
          refine x_aload_n dX5_shelfStatement_72 rfl 1 rfl ?_
          refine x_dup dX5_shelfStatement_73 rfl ?_
          obtain ⟨v31, ev31, H⟩ := nm_o H
          refine x_getIe fr_X5_103 dX5_shelfStatement_74 c21 rfl ev31 ?_
          refine x_iconst (v := 1) dX5_shelfStatement_77 (by decide) ?_
          refine x_iadd dX5_shelfStatement_78 ?_
          refine x_putI fl_X5_103 dX5_shelfStatement_79 c21 (fun e => by cases e) rfl ?_
          refine x_aload_n dX5_shelfStatement_82 rfl 0 rfl ?_
          refine x_getR fr_X5_23 dX5_shelfStatement_83 c24 rfl c26 ?_
          obtain ⟨v32, h33, hc34, H⟩ := bd_o H
          refine x_callVv (As := []) (q := (RX7, TX7, 6)) dX5_shelfStatement_86 mi_X7_next lk_X5_97 im_X7_next se_X7_next rfl c27 rfl rfl (Nat.le_of_ble_eq_true rfl) (t_X7_next (by omega) hc34) ?_
          refine x_iconst (v := 1) dX5_shelfStatement_89 (by decide) ?_
          obtain ⟨rfl, rfl⟩ := so_1 H
          exact x_iret dX5_shelfStatement_90 rfl (by decide)
        · replace H := ite_p H c20
          refine Ex.sub [] rfl ?_
          exact t_X5_shelfStatement_54 hd H
  · replace H := ite_m H c2
    refine x_aload_n dX5_shelfStatement_8 rfl 0 rfl ?_
    refine x_iconst (v := 5) dX5_shelfStatement_9 (by decide) ?_
    refine x_aload_n dX5_shelfStatement_10 rfl 0 rfl ?_
    obtain ⟨c39, H⟩ := ko_o H
    obtain ⟨a40, c41, H⟩ := kr_o H
    refine x_getR fr_X5_23 dX5_shelfStatement_11 c39 rfl c41 ?_
    obtain ⟨c42, H⟩ := ko_o H
    refine x_getI fr_X5_60 dX5_shelfStatement_14 c42 rfl ?_
    obtain ⟨v43, h44, hc45, H⟩ := bd_o H
    refine x_callVi (As := [.int 5, .int (hI h a40 3)]) (q := (RX5, TX5, 5)) dX5_shelfStatement_17 mi_X5_fail lk_X5_63 im_X5_fail se_X5_fail rfl c39 rfl rfl (Nat.le_of_ble_eq_true rfl) (t_X5_fail (by omega) hc45) ?_
    obtain ⟨c46, H⟩ := chk_o H
    obtain ⟨rfl, rfl⟩ := so_1 H
    exact x_iret dX5_shelfStatement_20 rfl c46
def f_X5_statement_177 (x0 : Nat) (h : aH) : Option (Int32 × aH) :=
  ko h x0 5 <|
  kr (hR h x0 2) fun a2 =>
  ko h a2 7 <|
  bd (f_X5_fail x0 1 (hI h a2 3) h) fun v5 h6 =>
  chk (narrow .boolean (.int v5) = .int v5) <|
  some (v5, h6)
set_option maxRecDepth 100000 in
set_option maxHeartbeats 4000000 in
theorem t_X5_statement_177 {Γ : gS} {d : Nat} (hd : 110 ≤ d) {x0 : Nat} {h : aH} {r : Int32} {h' : aH} (H : f_X5_statement_177 x0 h = some (r, h')) : Ex Γ gX5_statement d 177 [(0, .ref x0)] [] h (some (.int r)) h' := by
  unfold f_X5_statement_177 at H
  obtain ⟨d, rfl⟩ : ∃ e, d = e + 1 := ⟨d - 1, by omega⟩
  refine x_aload_n dX5_statement_177 rfl 0 rfl ?_
  refine x_iconst (v := 1) dX5_statement_178 (by decide) ?_
  refine x_aload_n dX5_statement_179 rfl 0 rfl ?_
  obtain ⟨c1, H⟩ := ko_o H
  obtain ⟨a2, c3, H⟩ := kr_o H
  refine x_getR fr_X5_23 dX5_statement_180 c1 rfl c3 ?_
  obtain ⟨c4, H⟩ := ko_o H
  refine x_getI fr_X5_60 dX5_statement_183 c4 rfl ?_
  obtain ⟨v5, h6, hc7, H⟩ := bd_o H
  refine x_callVi (As := [.int 1, .int (hI h a2 3)]) (q := (RX5, TX5, 5)) dX5_statement_186 mi_X5_fail lk_X5_63 im_X5_fail se_X5_fail rfl c1 rfl rfl (Nat.le_of_ble_eq_true rfl) (t_X5_fail (by omega) hc7) ?_
  obtain ⟨c8, H⟩ := chk_o H
  obtain ⟨rfl, rfl⟩ := so_1 H
  exact x_iret dX5_statement_189 rfl c8
def f_X5_statement_110 (s0 : Int32) (h : aH) : Option (Int32 × aH) :=
  chk (narrow .boolean (.int s0) = .int s0) <|
  some (s0, h)
set_option maxRecDepth 100000 in
set_option maxHeartbeats 4000000 in
theorem t_X5_statement_110 {Γ : gS} {d : Nat} (hd : 110 ≤ d) {s0 : Int32} {h : aH} {r : Int32} {h' : aH} (H : f_X5_statement_110 s0 h = some (r, h')) : Ex Γ gX5_statement d 110 [] [.int s0] h (some (.int r)) h' := by
  unfold f_X5_statement_110 at H
  obtain ⟨d, rfl⟩ : ∃ e, d = e + 1 := ⟨d - 1, by omega⟩
  obtain ⟨c9, H⟩ := chk_o H
  obtain ⟨rfl, rfl⟩ := so_1 H
  exact x_iret dX5_statement_110 rfl c9
def f_X5_statement_109 (h : aH) : Option (Int32 × aH) :=
  f_X5_statement_110 0 h
set_option maxRecDepth 100000 in
set_option maxHeartbeats 4000000 in
theorem t_X5_statement_109 {Γ : gS} {d : Nat} (hd : 110 ≤ d) {h : aH} {r : Int32} {h' : aH} (H : f_X5_statement_109 h = some (r, h')) : Ex Γ gX5_statement d 109 [] [] h (some (.int r)) h' := by
  unfold f_X5_statement_109 at H
  obtain ⟨d, rfl⟩ : ∃ e, d = e + 1 := ⟨d - 1, by omega⟩
  refine x_iconst (v := 0) dX5_statement_109 (by decide) ?_
  exact t_X5_statement_110 hd H
def f_X5_statement_143 (s0 : Int32) (h : aH) : Option (Int32 × aH) :=
  chk (narrow .boolean (.int s0) = .int s0) <|
  some (s0, h)
set_option maxRecDepth 100000 in
set_option maxHeartbeats 4000000 in
theorem t_X5_statement_143 {Γ : gS} {d : Nat} (hd : 110 ≤ d) {s0 : Int32} {h : aH} {r : Int32} {h' : aH} (H : f_X5_statement_143 s0 h = some (r, h')) : Ex Γ gX5_statement d 143 [] [.int s0] h (some (.int r)) h' := by
  unfold f_X5_statement_143 at H
  obtain ⟨d, rfl⟩ : ∃ e, d = e + 1 := ⟨d - 1, by omega⟩
  obtain ⟨c10, H⟩ := chk_o H
  obtain ⟨rfl, rfl⟩ := so_1 H
  exact x_iret dX5_statement_143 rfl c10
def f_X5_statement_142 (h : aH) : Option (Int32 × aH) :=
  f_X5_statement_143 0 h
set_option maxRecDepth 100000 in
set_option maxHeartbeats 4000000 in
theorem t_X5_statement_142 {Γ : gS} {d : Nat} (hd : 110 ≤ d) {h : aH} {r : Int32} {h' : aH} (H : f_X5_statement_142 h = some (r, h')) : Ex Γ gX5_statement d 142 [] [] h (some (.int r)) h' := by
  unfold f_X5_statement_142 at H
  obtain ⟨d, rfl⟩ : ∃ e, d = e + 1 := ⟨d - 1, by omega⟩
  refine x_iconst (v := 0) dX5_statement_142 (by decide) ?_
  exact t_X5_statement_143 hd H
def f_X5_statement_176 (s0 : Int32) (h : aH) : Option (Int32 × aH) :=
  chk (narrow .boolean (.int s0) = .int s0) <|
  some (s0, h)
set_option maxRecDepth 100000 in
set_option maxHeartbeats 4000000 in
theorem t_X5_statement_176 {Γ : gS} {d : Nat} (hd : 110 ≤ d) {s0 : Int32} {h : aH} {r : Int32} {h' : aH} (H : f_X5_statement_176 s0 h = some (r, h')) : Ex Γ gX5_statement d 176 [] [.int s0] h (some (.int r)) h' := by
  unfold f_X5_statement_176 at H
  obtain ⟨d, rfl⟩ : ∃ e, d = e + 1 := ⟨d - 1, by omega⟩
  obtain ⟨c11, H⟩ := chk_o H
  obtain ⟨rfl, rfl⟩ := so_1 H
  exact x_iret dX5_statement_176 rfl c11
def f_X5_statement_175 (h : aH) : Option (Int32 × aH) :=
  f_X5_statement_176 0 h
set_option maxRecDepth 100000 in
set_option maxHeartbeats 4000000 in
theorem t_X5_statement_175 {Γ : gS} {d : Nat} (hd : 110 ≤ d) {h : aH} {r : Int32} {h' : aH} (H : f_X5_statement_175 h = some (r, h')) : Ex Γ gX5_statement d 175 [] [] h (some (.int r)) h' := by
  unfold f_X5_statement_175 at H
  obtain ⟨d, rfl⟩ : ∃ e, d = e + 1 := ⟨d - 1, by omega⟩
  refine x_iconst (v := 0) dX5_statement_175 (by decide) ?_
  exact t_X5_statement_176 hd H
def f_X5_statement_35 (x0 : Nat) (x1 : Nat) (s0 : Int32) (h : aH) : Option (Int32 × aH) :=
  if s0 < 2 then
    f_X5_statement_177 x0 h
  else
  if 6 < s0 then
    f_X5_statement_177 x0 h
  else
  if s0 = 2 then
    ko h x0 5 <|
    bd (f_X5_shelfStatement x0 x1 h) fun v15 h16 =>
    chk (narrow .boolean (.int v15) = .int v15) <|
    some (v15, h16)
  else
  if s0 = 3 then
    f_X5_statement_177 x0 h
  else
  if s0 = 4 then
    ko h x0 5 <|
    bd (f_X5_begins x0 0 896 h) fun v22 h23 =>
    if v22 = 0 then
      f_X5_statement_109 h23
    else
      ko h23 x0 5 <|
      bd (f_P 100 3 x0 0 h23) fun v26 h27 =>
      if v26 = 0 then
        f_X5_statement_109 h27
      else
        ko h27 x0 5 <|
        bd (f_X5_ends x0 0 h27) fun v30 h31 =>
        if v30 = 0 then
          f_X5_statement_109 h31
        else
          f_X5_statement_110 1 h31
  else
  if s0 = 5 then
    ko h x0 5 <|
    bd (f_X5_begins x0 1 128 h) fun v38 h39 =>
    if v38 = 0 then
      f_X5_statement_142 h39
    else
      ko h39 x0 5 <|
      bd (f_P 100 3 x0 0 h39) fun v42 h43 =>
      if v42 = 0 then
        f_X5_statement_142 h43
      else
        ko h43 x0 5 <|
        bd (f_X5_ends x0 1 h43) fun v46 h47 =>
        if v46 = 0 then
          f_X5_statement_142 h47
        else
          f_X5_statement_143 1 h47
  else
  if s0 = 6 then
    ko h x0 5 <|
    bd (f_X5_begins x0 2 15360 h) fun v54 h55 =>
    if v54 = 0 then
      f_X5_statement_175 h55
    else
      ko h55 x0 5 <|
      bd (f_P 100 0 x0 0 h55) fun v58 h59 =>
      if v58 = 0 then
        f_X5_statement_175 h59
      else
        ko h59 x0 5 <|
        bd (f_X5_ends x0 2 h59) fun v62 h63 =>
        if v62 = 0 then
          f_X5_statement_175 h63
        else
          f_X5_statement_176 1 h63
  else
  none
set_option maxRecDepth 100000 in
set_option maxHeartbeats 4000000 in
theorem t_X5_statement_35 {Γ : gS} {d : Nat} (hd : 110 ≤ d) {x0 : Nat} {x1 : Nat} {s0 : Int32} {h : aH} {r : Int32} {h' : aH} (H : f_X5_statement_35 x0 x1 s0 h = some (r, h')) : Ex Γ gX5_statement d 35 [(0, .ref x0), (1, .ref x1)] [.int s0] h (some (.int r)) h' := by
  unfold f_X5_statement_35 at H
  obtain ⟨d, rfl⟩ : ∃ e, d = e + 1 := ⟨d - 1, by omega⟩
  refine x_istore_n (lv' := [(2, .int s0), (0, .ref x0), (1, .ref x1)]) dX5_statement_35 rfl (by decide) rfl rfl ?_
  refine x_iload_n dX5_statement_36 rfl 0 rfl ?_
  by_cases c12 : s0 < 2
  · replace H := ite_p H c12
    refine x_tableOut (tgt := 177) dX5_statement_37 (Or.inl (sw_lo c12 (by decide))) (by decide) ?_
    refine Ex.sub [1] rfl ?_
    exact t_X5_statement_177 hd H
  replace H := ite_m H c12
  by_cases c13 : 6 < s0
  · replace H := ite_p H c13
    refine x_tableOut (tgt := 177) dX5_statement_37 (Or.inr (sw_hi c13 (by decide))) (by decide) ?_
    refine Ex.sub [1] rfl ?_
    exact t_X5_statement_177 hd H
  replace H := ite_m H c13
  by_cases c14 : s0 = 2
  · replace H := ite_p H c14
    refine x_tableIn (tgt := 72) dX5_statement_37 (by rw [c14]; decide) (by rw [c14]; decide) (by rw [c14]; rfl) (by decide) ?_
    refine x_aload_n dX5_statement_72 rfl 1 rfl ?_
    refine x_aload_n dX5_statement_73 rfl 2 rfl ?_
    obtain ⟨c19, H⟩ := ko_o H
    obtain ⟨v15, h16, hc17, H⟩ := bd_o H
    refine x_callVi (As := [.ref x1]) (q := (RX5, TX5, 5)) dX5_statement_74 mi_X5_shelfStatement lk_X5_73 im_X5_shelfStatement se_X5_shelfStatement rfl c19 rfl rfl (Nat.le_of_ble_eq_true rfl) (t_X5_shelfStatement (by omega) hc17) ?_
    obtain ⟨c18, H⟩ := chk_o H
    obtain ⟨rfl, rfl⟩ := so_1 H
    exact x_iret dX5_statement_77 rfl c18
  replace H := ite_m H c14
  by_cases c20 : s0 = 3
  · replace H := ite_p H c20
    refine x_tableIn (tgt := 177) dX5_statement_37 (by rw [c20]; decide) (by rw [c20]; decide) (by rw [c20]; rfl) (by decide) ?_
    refine Ex.sub [1] rfl ?_
    exact t_X5_statement_177 hd H
  replace H := ite_m H c20
  by_cases c21 : s0 = 4
  · replace H := ite_p H c21
    refine x_tableIn (tgt := 78) dX5_statement_37 (by rw [c21]; decide) (by rw [c21]; decide) (by rw [c21]; rfl) (by decide) ?_
    refine x_aload_n dX5_statement_78 rfl 1 rfl ?_
    refine x_iconst (v := 0) dX5_statement_79 (by decide) ?_
    refine x_sipush (v := 896) dX5_statement_80 (by decide) ?_
    obtain ⟨c36, H⟩ := ko_o H
    obtain ⟨v22, h23, hc24, H⟩ := bd_o H
    refine x_callVi (As := [.int 0, .int 896]) (q := (RX5, TX5, 5)) dX5_statement_83 mi_X5_begins lk_X5_76 im_X5_begins se_X5_begins rfl c36 rfl rfl (Nat.le_of_ble_eq_true rfl) (t_X5_begins (by omega) hc24) ?_
    refine x_if_eq (tgt := 109) dX5_statement_86 (by decide) (fun c25 => ?_) (fun c25 => ?_)
    · replace H := ite_p H c25
      refine Ex.sub [] rfl ?_
      exact t_X5_statement_109 hd H
    · replace H := ite_m H c25
      refine x_aload_n dX5_statement_89 rfl 1 rfl ?_
      refine x_iconst (v := 0) dX5_statement_90 (by decide) ?_
      obtain ⟨c35, H⟩ := ko_o H
      obtain ⟨v26, h27, hc28, H⟩ := bd_o H
      refine x_callVi (As := [.int 0]) (q := (RX5, TX5, 5)) dX5_statement_91 mi_X5_sum lk_X5_79 im_X5_sum se_X5_sum rfl c35 rfl rfl (Nat.le_of_ble_eq_true rfl) (ts_X5_sum (by omega) hc28) ?_
      refine x_if_eq (tgt := 109) dX5_statement_94 (by decide) (fun c29 => ?_) (fun c29 => ?_)
      · replace H := ite_p H c29
        refine Ex.sub [] rfl ?_
        exact t_X5_statement_109 hd H
      · replace H := ite_m H c29
        refine x_aload_n dX5_statement_97 rfl 1 rfl ?_
        refine x_iconst (v := 0) dX5_statement_98 (by decide) ?_
        obtain ⟨c34, H⟩ := ko_o H
        obtain ⟨v30, h31, hc32, H⟩ := bd_o H
        refine x_callVi (As := [.int 0]) (q := (RX5, TX5, 5)) dX5_statement_99 mi_X5_ends lk_X5_82 im_X5_ends se_X5_ends rfl c34 rfl rfl (Nat.le_of_ble_eq_true rfl) (t_X5_ends (by omega) hc32) ?_
        refine x_if_eq (tgt := 109) dX5_statement_102 (by decide) (fun c33 => ?_) (fun c33 => ?_)
        · replace H := ite_p H c33
          refine Ex.sub [] rfl ?_
          exact t_X5_statement_109 hd H
        · replace H := ite_m H c33
          refine x_iconst (v := 1) dX5_statement_105 (by decide) ?_
          refine x_goto (tgt := 110) dX5_statement_106 (by decide) ?_
          refine Ex.sub [] rfl ?_
          exact t_X5_statement_110 hd H
  replace H := ite_m H c21
  by_cases c37 : s0 = 5
  · replace H := ite_p H c37
    refine x_tableIn (tgt := 111) dX5_statement_37 (by rw [c37]; decide) (by rw [c37]; decide) (by rw [c37]; rfl) (by decide) ?_
    refine x_aload_n dX5_statement_111 rfl 1 rfl ?_
    refine x_iconst (v := 1) dX5_statement_112 (by decide) ?_
    refine x_sipush (v := 128) dX5_statement_113 (by decide) ?_
    obtain ⟨c52, H⟩ := ko_o H
    obtain ⟨v38, h39, hc40, H⟩ := bd_o H
    refine x_callVi (As := [.int 1, .int 128]) (q := (RX5, TX5, 5)) dX5_statement_116 mi_X5_begins lk_X5_76 im_X5_begins se_X5_begins rfl c52 rfl rfl (Nat.le_of_ble_eq_true rfl) (t_X5_begins (by omega) hc40) ?_
    refine x_if_eq (tgt := 142) dX5_statement_119 (by decide) (fun c41 => ?_) (fun c41 => ?_)
    · replace H := ite_p H c41
      refine Ex.sub [] rfl ?_
      exact t_X5_statement_142 hd H
    · replace H := ite_m H c41
      refine x_aload_n dX5_statement_122 rfl 1 rfl ?_
      refine x_iconst (v := 0) dX5_statement_123 (by decide) ?_
      obtain ⟨c51, H⟩ := ko_o H
      obtain ⟨v42, h43, hc44, H⟩ := bd_o H
      refine x_callVi (As := [.int 0]) (q := (RX5, TX5, 5)) dX5_statement_124 mi_X5_sum lk_X5_79 im_X5_sum se_X5_sum rfl c51 rfl rfl (Nat.le_of_ble_eq_true rfl) (ts_X5_sum (by omega) hc44) ?_
      refine x_if_eq (tgt := 142) dX5_statement_127 (by decide) (fun c45 => ?_) (fun c45 => ?_)
      · replace H := ite_p H c45
        refine Ex.sub [] rfl ?_
        exact t_X5_statement_142 hd H
      · replace H := ite_m H c45
        refine x_aload_n dX5_statement_130 rfl 1 rfl ?_
        refine x_iconst (v := 1) dX5_statement_131 (by decide) ?_
        obtain ⟨c50, H⟩ := ko_o H
        obtain ⟨v46, h47, hc48, H⟩ := bd_o H
        refine x_callVi (As := [.int 1]) (q := (RX5, TX5, 5)) dX5_statement_132 mi_X5_ends lk_X5_82 im_X5_ends se_X5_ends rfl c50 rfl rfl (Nat.le_of_ble_eq_true rfl) (t_X5_ends (by omega) hc48) ?_
        refine x_if_eq (tgt := 142) dX5_statement_135 (by decide) (fun c49 => ?_) (fun c49 => ?_)
        · replace H := ite_p H c49
          refine Ex.sub [] rfl ?_
          exact t_X5_statement_142 hd H
        · replace H := ite_m H c49
          refine x_iconst (v := 1) dX5_statement_138 (by decide) ?_
          refine x_goto (tgt := 143) dX5_statement_139 (by decide) ?_
          refine Ex.sub [] rfl ?_
          exact t_X5_statement_143 hd H
  replace H := ite_m H c37
  by_cases c53 : s0 = 6
  · replace H := ite_p H c53
    refine x_tableIn (tgt := 144) dX5_statement_37 (by rw [c53]; decide) (by rw [c53]; decide) (by rw [c53]; rfl) (by decide) ?_
    refine x_aload_n dX5_statement_144 rfl 1 rfl ?_
    refine x_iconst (v := 2) dX5_statement_145 (by decide) ?_
    refine x_sipush (v := 15360) dX5_statement_146 (by decide) ?_
    obtain ⟨c68, H⟩ := ko_o H
    obtain ⟨v54, h55, hc56, H⟩ := bd_o H
    refine x_callVi (As := [.int 2, .int 15360]) (q := (RX5, TX5, 5)) dX5_statement_149 mi_X5_begins lk_X5_76 im_X5_begins se_X5_begins rfl c68 rfl rfl (Nat.le_of_ble_eq_true rfl) (t_X5_begins (by omega) hc56) ?_
    refine x_if_eq (tgt := 175) dX5_statement_152 (by decide) (fun c57 => ?_) (fun c57 => ?_)
    · replace H := ite_p H c57
      refine Ex.sub [] rfl ?_
      exact t_X5_statement_175 hd H
    · replace H := ite_m H c57
      refine x_aload_n dX5_statement_155 rfl 1 rfl ?_
      refine x_iconst (v := 0) dX5_statement_156 (by decide) ?_
      obtain ⟨c67, H⟩ := ko_o H
      obtain ⟨v58, h59, hc60, H⟩ := bd_o H
      refine x_callVi (As := [.int 0]) (q := (RX5, TX5, 5)) dX5_statement_157 mi_X5_test lk_X5_85 im_X5_test se_X5_test rfl c67 rfl rfl (Nat.le_of_ble_eq_true rfl) (ts_X5_test (by omega) hc60) ?_
      refine x_if_eq (tgt := 175) dX5_statement_160 (by decide) (fun c61 => ?_) (fun c61 => ?_)
      · replace H := ite_p H c61
        refine Ex.sub [] rfl ?_
        exact t_X5_statement_175 hd H
      · replace H := ite_m H c61
        refine x_aload_n dX5_statement_163 rfl 1 rfl ?_
        refine x_iconst (v := 2) dX5_statement_164 (by decide) ?_
        obtain ⟨c66, H⟩ := ko_o H
        obtain ⟨v62, h63, hc64, H⟩ := bd_o H
        refine x_callVi (As := [.int 2]) (q := (RX5, TX5, 5)) dX5_statement_165 mi_X5_ends lk_X5_82 im_X5_ends se_X5_ends rfl c66 rfl rfl (Nat.le_of_ble_eq_true rfl) (t_X5_ends (by omega) hc64) ?_
        refine x_if_eq (tgt := 175) dX5_statement_168 (by decide) (fun c65 => ?_) (fun c65 => ?_)
        · replace H := ite_p H c65
          refine Ex.sub [] rfl ?_
          exact t_X5_statement_175 hd H
        · replace H := ite_m H c65
          refine x_iconst (v := 1) dX5_statement_171 (by decide) ?_
          refine x_goto (tgt := 176) dX5_statement_172 (by decide) ?_
          refine Ex.sub [] rfl ?_
          exact t_X5_statement_176 hd H
  replace H := ite_m H c53
  cases H
def f_X5_statement (x0 : Nat) (x1 : Nat) (h : aH) : Option (Int32 × aH) :=
  ko h x1 4 <|
  if (hI h x1 0) = 0 then
    ko h x0 5 <|
    bd (f_X5_memoryStatement x0 x1 h) fun v76 h77 =>
    chk (narrow .boolean (.int v76) = .int v76) <|
    some (v76, h77)
  else
    ko h x0 5 <|
    kr (hR h x0 2) fun a72 =>
    ko h a72 7 <|
    if (hI h a72 2) = 1 then
      f_X5_statement_35 x0 x1 (hI h a72 5) h
    else
      f_X5_statement_35 x0 x1 (-1) h
set_option maxRecDepth 100000 in
set_option maxHeartbeats 4000000 in
theorem t_X5_statement {Γ : gS} {d : Nat} (hd : 110 ≤ d) {x0 : Nat} {x1 : Nat} {h : aH} {r : Int32} {h' : aH} (H : f_X5_statement x0 x1 h = some (r, h')) : Mx Γ gX5_statement d [.ref x0, .ref x1] h (some (.int r)) h' := by
  refine Mx.of (by decide +kernel) (Nat.le_of_ble_eq_true rfl) ?_
  unfold f_X5_statement at H
  show Ex Γ gX5_statement d 0 [(0, .ref x0), (1, .ref x1)] [] h (some (.int r)) h'
  obtain ⟨d, rfl⟩ : ∃ e, d = e + 1 := ⟨d - 1, by omega⟩
  refine x_aload_n dX5_statement_0 rfl 1 rfl ?_
  obtain ⟨c69, H⟩ := ko_o H
  refine x_getI fr_X5_57 dX5_statement_1 c69 rfl ?_
  refine x_if_ne (tgt := 13) dX5_statement_4 (by decide) (fun c70 => ?_) (fun c70 => ?_)
  · replace H := ite_m H c70
    refine x_aload_n dX5_statement_13 rfl 0 rfl ?_
    obtain ⟨c71, H⟩ := ko_o H
    obtain ⟨a72, c73, H⟩ := kr_o H
    refine x_getR fr_X5_23 dX5_statement_14 c71 rfl c73 ?_
    obtain ⟨c74, H⟩ := ko_o H
    refine x_getI fr_X5_46 dX5_statement_17 c74 rfl ?_
    refine x_iconst (v := 1) dX5_statement_20 (by decide) ?_
    refine x_icmp_ne (tgt := 34) dX5_statement_21 (by decide) (fun c75 => ?_) (fun c75 => ?_)
    · replace H := ite_m H c75
      refine x_iconst (v := (-1)) dX5_statement_34 (by decide) ?_
      exact t_X5_statement_35 hd H
    · replace H := ite_p H c75
      refine x_aload_n dX5_statement_24 rfl 0 rfl ?_
      refine x_getR fr_X5_23 dX5_statement_25 c71 rfl c73 ?_
      refine x_getI fr_X5_70 dX5_statement_28 c74 rfl ?_
      refine x_goto (tgt := 35) dX5_statement_31 (by decide) ?_
      exact t_X5_statement_35 hd H
  · replace H := ite_p H c70
    refine x_aload_n dX5_statement_7 rfl 0 rfl ?_
    refine x_aload_n dX5_statement_8 rfl 1 rfl ?_
    obtain ⟨c80, H⟩ := ko_o H
    obtain ⟨v76, h77, hc78, H⟩ := bd_o H
    refine x_callVi (As := [.ref x1]) (q := (RX5, TX5, 5)) dX5_statement_9 mi_X5_memoryStatement lk_X5_67 im_X5_memoryStatement se_X5_memoryStatement rfl c80 rfl rfl (Nat.le_of_ble_eq_true rfl) (t_X5_memoryStatement (by omega) hc78) ?_
    obtain ⟨c79, H⟩ := chk_o H
    obtain ⟨rfl, rfl⟩ := so_1 H
    exact x_iret dX5_statement_12 rfl c79
def f_X5_readMachine_44 (h : aH) : Option (Int32 × aH) :=
  some (0, h)
set_option maxRecDepth 100000 in
set_option maxHeartbeats 4000000 in
theorem t_X5_readMachine_44 {Γ : gS} {d : Nat} (hd : 111 ≤ d) {h : aH} {r : Int32} {h' : aH} (H : f_X5_readMachine_44 h = some (r, h')) : Ex Γ gX5_readMachine d 44 [] [] h (some (.int r)) h' := by
  unfold f_X5_readMachine_44 at H
  obtain ⟨d, rfl⟩ : ∃ e, d = e + 1 := ⟨d - 1, by omega⟩
  refine x_iconst (v := 0) dX5_readMachine_44 (by decide) ?_
  obtain ⟨rfl, rfl⟩ := so_1 H
  exact x_iret dX5_readMachine_45 rfl (by decide)
def f_X5_readMachine_112 (s0 : Int32) (h : aH) : Option (Int32 × aH) :=
  chk (narrow .boolean (.int s0) = .int s0) <|
  some (s0, h)
set_option maxRecDepth 100000 in
set_option maxHeartbeats 4000000 in
theorem t_X5_readMachine_112 {Γ : gS} {d : Nat} (hd : 111 ≤ d) {s0 : Int32} {h : aH} {r : Int32} {h' : aH} (H : f_X5_readMachine_112 s0 h = some (r, h')) : Ex Γ gX5_readMachine d 112 [] [.int s0] h (some (.int r)) h' := by
  unfold f_X5_readMachine_112 at H
  obtain ⟨d, rfl⟩ : ∃ e, d = e + 1 := ⟨d - 1, by omega⟩
  obtain ⟨c1, H⟩ := chk_o H
  obtain ⟨rfl, rfl⟩ := so_1 H
  exact x_iret dX5_readMachine_112 rfl c1
def f_X5_readMachine_107 (h : aH) : Option (Int32 × aH) :=
  f_X5_readMachine_112 1 h
set_option maxRecDepth 100000 in
set_option maxHeartbeats 4000000 in
theorem t_X5_readMachine_107 {Γ : gS} {d : Nat} (hd : 111 ≤ d) {h : aH} {r : Int32} {h' : aH} (H : f_X5_readMachine_107 h = some (r, h')) : Ex Γ gX5_readMachine d 107 [] [] h (some (.int r)) h' := by
  unfold f_X5_readMachine_107 at H
  obtain ⟨d, rfl⟩ : ∃ e, d = e + 1 := ⟨d - 1, by omega⟩
  refine x_iconst (v := 1) dX5_readMachine_107 (by decide) ?_
  refine x_goto (tgt := 112) dX5_readMachine_108 (by decide) ?_
  exact t_X5_readMachine_112 hd H
def f_X5_readMachine_62 (x0 : Nat) (x3 : Nat) (h : aH) : Option (Int32 × aH) :=
  ko h x0 5 <|
  kr (hR h x0 2) fun a3 =>
  ko h a3 7 <|
  if (hI h a3 2) = 0 then
    ko h x3 4 <|
    if 0 < (hI h x3 0) then
      f_X5_readMachine_107 h
    else
      bd (f_X5_fail x0 1 (hI h a3 3) h) fun v9 h10 =>
      if v9 = 0 then
        f_X5_readMachine_112 0 h10
      else
        f_X5_readMachine_107 h10
  else
    bd (f_X5_fail x0 5 (hI h a3 3) h) fun v13 h14 =>
    chk (narrow .boolean (.int v13) = .int v13) <|
    some (v13, h14)
set_option maxRecDepth 100000 in
set_option maxHeartbeats 4000000 in
theorem t_X5_readMachine_62 {Γ : gS} {d : Nat} (hd : 111 ≤ d) {x0 : Nat} {x3 : Nat} {h : aH} {r : Int32} {h' : aH} (H : f_X5_readMachine_62 x0 x3 h = some (r, h')) : Ex Γ gX5_readMachine d 62 [(0, .ref x0), (3, .ref x3)] [] h (some (.int r)) h' := by
  unfold f_X5_readMachine_62 at H
  obtain ⟨d, rfl⟩ : ∃ e, d = e + 1 := ⟨d - 1, by omega⟩
  refine x_aload_n dX5_readMachine_62 rfl 0 rfl ?_
  obtain ⟨c2, H⟩ := ko_o H
  obtain ⟨a3, c4, H⟩ := kr_o H
  refine x_getR fr_X5_23 dX5_readMachine_63 c2 rfl c4 ?_
  obtain ⟨c5, H⟩ := ko_o H
  refine x_getI fr_X5_46 dX5_readMachine_66 c5 rfl ?_
  refine x_if_eq (tgt := 85) dX5_readMachine_69 (by decide) (fun c6 => ?_) (fun c6 => ?_)
  · replace H := ite_p H c6
    refine x_aload_n dX5_readMachine_85 rfl 1 rfl ?_
    obtain ⟨c7, H⟩ := ko_o H
    refine x_getI fr_X5_57 dX5_readMachine_86 c7 rfl ?_
    refine x_if_gt (tgt := 107) dX5_readMachine_89 (by decide) (fun c8 => ?_) (fun c8 => ?_)
    · replace H := ite_p H c8
      refine Ex.sub [] rfl ?_
      exact t_X5_readMachine_107 hd H
    · replace H := ite_m H c8
      refine x_aload_n dX5_readMachine_92 rfl 0 rfl ?_
      refine x_iconst (v := 1) dX5_readMachine_93 (by decide) ?_
      refine x_aload_n dX5_readMachine_94 rfl 0 rfl ?_
      refine x_getR fr_X5_23 dX5_readMachine_95 c2 rfl c4 ?_
      refine x_getI fr_X5_60 dX5_readMachine_98 c5 rfl ?_
      obtain ⟨v9, h10, hc11, H⟩ := bd_o H
      refine x_callVi (As := [.int 1, .int (hI h a3 3)]) (q := (RX5, TX5, 5)) dX5_readMachine_101 mi_X5_fail lk_X5_63 im_X5_fail se_X5_fail rfl c2 rfl rfl (Nat.le_of_ble_eq_true rfl) (t_X5_fail (by omega) hc11) ?_
      refine x_if_eq (tgt := 111) dX5_readMachine_104 (by decide) (fun c12 => ?_) (fun c12 => ?_)
      · replace H := ite_p H c12
        refine x_iconst (v := 0) dX5_readMachine_111 (by decide) ?_
        refine Ex.sub [] rfl ?_
        exact t_X5_readMachine_112 hd H
      · replace H := ite_m H c12
        refine Ex.sub [] rfl ?_
        exact t_X5_readMachine_107 hd H
  · replace H := ite_m H c6
    refine x_aload_n dX5_readMachine_72 rfl 0 rfl ?_
    refine x_iconst (v := 5) dX5_readMachine_73 (by decide) ?_
    refine x_aload_n dX5_readMachine_74 rfl 0 rfl ?_
    refine x_getR fr_X5_23 dX5_readMachine_75 c2 rfl c4 ?_
    refine x_getI fr_X5_60 dX5_readMachine_78 c5 rfl ?_
    obtain ⟨v13, h14, hc15, H⟩ := bd_o H
    refine x_callVi (As := [.int 5, .int (hI h a3 3)]) (q := (RX5, TX5, 5)) dX5_readMachine_81 mi_X5_fail lk_X5_63 im_X5_fail se_X5_fail rfl c2 rfl rfl (Nat.le_of_ble_eq_true rfl) (t_X5_fail (by omega) hc15) ?_
    obtain ⟨c16, H⟩ := chk_o H
    obtain ⟨rfl, rfl⟩ := so_1 H
    exact x_iret dX5_readMachine_84 rfl c16
def b_X5_readMachine_10 (k10 : Nat → Nat → Int32 → aH → Option (Int32 × aH)) (x0 : Nat) (x3 : Nat) (x4 : Int32) (h : aH) : Option (Int32 × aH) :=
  if 40 ≤ x4 then
    f_X5_readMachine_62 x0 x3 h
  else
    ko h x0 5 <|
    kr (hR h x0 2) fun a19 =>
    ko h a19 7 <|
    if (hI h a19 2) = 0 then
      f_X5_readMachine_62 x0 x3 h
    else
      bd (f_X5_statement x0 x3 h) fun v23 h24 =>
      if v23 = 0 then
        f_X5_readMachine_44 h24
      else
        ko h24 x0 5 <|
        bd (f_X5_sign x0 59 h24) fun v27 h28 =>
        if v27 = 0 then
          f_X5_readMachine_44 h28
        else
          ko h28 x3 4 <|
          nm (x4 + 1) fun (v32 : Int32) =>
          k10 x0 x3 v32 (sI h28 x3 0 ((hI h28 x3 0) + 1))
set_option maxRecDepth 100000 in
set_option maxHeartbeats 4000000 in
theorem tb_X5_readMachine_10 {Γ : gS} {d : Nat} (hd : 111 ≤ d) {k10 : Nat → Nat → Int32 → aH → Option (Int32 × aH)} (hk10 : ∀ {x0 : Nat} {x3 : Nat} {x4 : Int32} {h : aH} {r : Int32} {h' : aH}, k10 x0 x3 x4 h = some (r, h') → Ex Γ gX5_readMachine d 10 [(0, .ref x0), (3, .ref x3), (4, .int x4)] [] h (some (.int r)) h') {x0 : Nat} {x3 : Nat} {x4 : Int32} {h : aH} {r : Int32} {h' : aH} (H : b_X5_readMachine_10 k10 x0 x3 x4 h = some (r, h')) : Ex Γ gX5_readMachine d 10 [(0, .ref x0), (3, .ref x3), (4, .int x4)] [] h (some (.int r)) h' := by
  unfold b_X5_readMachine_10 at H
  obtain ⟨d, rfl⟩ : ∃ e, d = e + 1 := ⟨d - 1, by omega⟩
  refine x_iload dX5_readMachine_10 2 rfl ?_
  refine x_bipush (v := 40) dX5_readMachine_12 (by decide) ?_
  refine x_icmp_ge (tgt := 62) dX5_readMachine_14 (by decide) (fun c17 => ?_) (fun c17 => ?_)
  · replace H := ite_p H c17
    refine Ex.sub [0, 1] rfl ?_
    exact t_X5_readMachine_62 hd H
  · replace H := ite_m H c17
    refine x_aload_n dX5_readMachine_17 rfl 0 rfl ?_
    obtain ⟨c18, H⟩ := ko_o H
    obtain ⟨a19, c20, H⟩ := kr_o H
    refine x_getR fr_X5_23 dX5_readMachine_18 c18 rfl c20 ?_
    obtain ⟨c21, H⟩ := ko_o H
    refine x_getI fr_X5_46 dX5_readMachine_21 c21 rfl ?_
    refine x_if_eq (tgt := 62) dX5_readMachine_24 (by decide) (fun c22 => ?_) (fun c22 => ?_)
    · replace H := ite_p H c22
      refine Ex.sub [0, 1] rfl ?_
      exact t_X5_readMachine_62 hd H
    · replace H := ite_m H c22
      refine x_aload_n dX5_readMachine_27 rfl 0 rfl ?_
      refine x_aload_n dX5_readMachine_28 rfl 1 rfl ?_
      obtain ⟨v23, h24, hc25, H⟩ := bd_o H
      refine x_callVi (As := [.ref x3]) (q := (RX5, TX5, 5)) dX5_readMachine_29 mi_X5_statement lk_X5_49 im_X5_statement se_X5_statement rfl c18 rfl rfl (Nat.le_of_ble_eq_true rfl) (t_X5_statement (by omega) hc25) ?_
      refine x_if_eq (tgt := 44) dX5_readMachine_32 (by decide) (fun c26 => ?_) (fun c26 => ?_)
      · replace H := ite_p H c26
        refine Ex.sub [] rfl ?_
        exact t_X5_readMachine_44 hd H
      · replace H := ite_m H c26
        refine x_aload_n dX5_readMachine_35 rfl 0 rfl ?_
        refine x_bipush (v := 59) dX5_readMachine_36 (by decide) ?_
        obtain ⟨c33, H⟩ := ko_o H
        obtain ⟨v27, h28, hc29, H⟩ := bd_o H
        refine x_callVi (As := [.int 59]) (q := (RX5, TX5, 5)) dX5_readMachine_38 mi_X5_sign lk_X5_53 im_X5_sign se_X5_sign rfl c33 rfl rfl (Nat.le_of_ble_eq_true rfl) (t_X5_sign (by omega) hc29) ?_
        refine x_if_ne (tgt := 46) dX5_readMachine_41 (by decide) (fun c30 => ?_) (fun c30 => ?_)
        · replace H := ite_m H c30
          refine x_aload_n dX5_readMachine_46 rfl 1 rfl ?_
          refine x_dup dX5_readMachine_47 rfl ?_
          obtain ⟨c31, H⟩ := ko_o H
          refine x_getI fr_X5_57 dX5_readMachine_48 c31 rfl ?_
          refine x_iconst (v := 1) dX5_readMachine_51 (by decide) ?_
          refine x_iadd dX5_readMachine_52 ?_
          refine x_putI fl_X5_57 dX5_readMachine_53 c31 (fun e => by cases e) rfl ?_
          obtain ⟨v32, ev32, H⟩ := nm_o H
          refine x_iinc (v := v32) (lv' := [(4, .int v32), (0, .ref x0), (3, .ref x3)]) dX5_readMachine_56 2 rfl (by decide) ev32 rfl ?_
          refine x_goto (tgt := 10) dX5_readMachine_59 (by decide) ?_
          refine Ex.sub [1, 2, 0] rfl ?_
          exact hk10 H
        · replace H := ite_p H c30
          refine Ex.sub [] rfl ?_
          exact t_X5_readMachine_44 hd H
def f_X5_readMachine_10 : Nat → Nat → Nat → Int32 → aH → Option (Int32 × aH)
  | 0 => fun _ _ _ _ => none
  | n + 1 => b_X5_readMachine_10 (f_X5_readMachine_10 n)
set_option maxRecDepth 100000 in
set_option maxHeartbeats 4000000 in
theorem t_X5_readMachine_10 {Γ : gS} {d : Nat} (hd : 111 ≤ d) (n : Nat) : ∀ {x0 : Nat} {x3 : Nat} {x4 : Int32} {h : aH} {r : Int32} {h' : aH}, f_X5_readMachine_10 n x0 x3 x4 h = some (r, h') → Ex Γ gX5_readMachine d 10 [(0, .ref x0), (3, .ref x3), (4, .int x4)] [] h (some (.int r)) h' := by
  induction n with
  | zero => intro x0 x3 x4 h r h' H; cases H
  | succ n ih => intro x0 x3 x4 h r h' H; exact tb_X5_readMachine_10 hd ih H
def f_X5_readMachine (x0 : Nat) (x1 : Nat) (x2 : Int32) (x3 : Nat) (h : aH) : Option (Int32 × aH) :=
  ko h x0 5 <|
  bd (f_X5_begin x0 x1 x2 x3 h) fun _ h35 =>
  f_X5_readMachine_10 FU x0 x3 0 h35
set_option maxRecDepth 100000 in
set_option maxHeartbeats 4000000 in
theorem t_X5_readMachine {Γ : gS} {d : Nat} (hd : 111 ≤ d) {x0 : Nat} {x1 : Nat} {x2 : Int32} {x3 : Nat} {h : aH} {r : Int32} {h' : aH} (H : f_X5_readMachine x0 x1 x2 x3 h = some (r, h')) : Mx Γ gX5_readMachine d [.ref x0, .ref x1, .int x2, .ref x3] h (some (.int r)) h' := by
  refine Mx.of (by decide +kernel) (Nat.le_of_ble_eq_true rfl) ?_
  unfold f_X5_readMachine at H
  show Ex Γ gX5_readMachine d 0 [(0, .ref x0), (1, .ref x1), (2, .int x2), (3, .ref x3)] [] h (some (.int r)) h'
  obtain ⟨d, rfl⟩ : ∃ e, d = e + 1 := ⟨d - 1, by omega⟩
  refine x_aload_n dX5_readMachine_0 rfl 0 rfl ?_
  refine x_aload_n dX5_readMachine_1 rfl 1 rfl ?_
  refine x_iload_n dX5_readMachine_2 rfl 2 rfl ?_
  refine x_aload_n dX5_readMachine_3 rfl 3 rfl ?_
  obtain ⟨c37, H⟩ := ko_o H
  obtain ⟨v34, h35, hc36, H⟩ := bd_o H
  refine x_callVv (As := [.ref x1, .int x2, .ref x3]) (q := (RX5, TX5, 5)) dX5_readMachine_4 mi_X5_begin lk_X5_43 im_X5_begin se_X5_begin rfl c37 rfl rfl (Nat.le_of_ble_eq_true rfl) (t_X5_begin (by omega) hc36) ?_
  refine x_iconst (v := 0) dX5_readMachine_7 (by decide) ?_
  refine x_istore (lv' := [(4, .int 0), (0, .ref x0), (1, .ref x1), (2, .int x2), (3, .ref x3)]) dX5_readMachine_8 (by decide) rfl rfl ?_
  refine Ex.sub [1, 4, 0] rfl ?_
  exact t_X5_readMachine_10 hd FU H
def f_X5_readQuestion_144 (s0 : Int32) (h : aH) : Option (Int32 × aH) :=
  some (s0, h)
set_option maxRecDepth 100000 in
set_option maxHeartbeats 4000000 in
theorem t_X5_readQuestion_144 {Γ : gS} {d : Nat} (hd : 110 ≤ d) {s0 : Int32} {h : aH} {r : Int32} {h' : aH} (H : f_X5_readQuestion_144 s0 h = some (r, h')) : Ex Γ gX5_readQuestion d 144 [] [.int s0] h (some (.int r)) h' := by
  unfold f_X5_readQuestion_144 at H
  obtain ⟨d, rfl⟩ : ∃ e, d = e + 1 := ⟨d - 1, by omega⟩
  obtain ⟨rfl, rfl⟩ := so_1 H
  exact x_iret dX5_readQuestion_144 rfl rfl
def f_X5_readQuestion_133 (x4 : Int32) (x5 : Int32) (h : aH) : Option (Int32 × aH) :=
  if x5 = 0 then
    f_X5_readQuestion_144 (-1) h
  else
    f_X5_readQuestion_144 x4 h
set_option maxRecDepth 100000 in
set_option maxHeartbeats 4000000 in
theorem t_X5_readQuestion_133 {Γ : gS} {d : Nat} (hd : 110 ≤ d) {x4 : Int32} {x5 : Int32} {h : aH} {r : Int32} {h' : aH} (H : f_X5_readQuestion_133 x4 x5 h = some (r, h')) : Ex Γ gX5_readQuestion d 133 [(4, .int x4), (5, .int x5)] [] h (some (.int r)) h' := by
  unfold f_X5_readQuestion_133 at H
  obtain ⟨d, rfl⟩ : ∃ e, d = e + 1 := ⟨d - 1, by omega⟩
  refine x_iload dX5_readQuestion_133 1 rfl ?_
  refine x_if_eq (tgt := 143) dX5_readQuestion_135 (by decide) (fun c1 => ?_) (fun c1 => ?_)
  · replace H := ite_p H c1
    refine x_iconst (v := (-1)) dX5_readQuestion_143 (by decide) ?_
    refine Ex.sub [] rfl ?_
    exact t_X5_readQuestion_144 hd H
  · replace H := ite_m H c1
    refine x_iload dX5_readQuestion_138 0 rfl ?_
    refine x_goto (tgt := 144) dX5_readQuestion_140 (by decide) ?_
    refine Ex.sub [] rfl ?_
    exact t_X5_readQuestion_144 hd H
def f_X5_readQuestion_102 (x0 : Nat) (x4 : Int32) (s0 : Int32) (h : aH) : Option (Int32 × aH) :=
  if s0 = 0 then
    f_X5_readQuestion_133 x4 s0 h
  else
    ko h x0 5 <|
    kr (hR h x0 2) fun a4 =>
    ko h a4 7 <|
    if (hI h a4 2) = 0 then
      f_X5_readQuestion_133 x4 s0 h
    else
      bd (f_X5_fail x0 1 (hI h a4 3) h) fun v8 h9 =>
      f_X5_readQuestion_133 x4 v8 h9
set_option maxRecDepth 100000 in
set_option maxHeartbeats 4000000 in
theorem t_X5_readQuestion_102 {Γ : gS} {d : Nat} (hd : 110 ≤ d) {x0 : Nat} {x4 : Int32} {s0 : Int32} {h : aH} {r : Int32} {h' : aH} (H : f_X5_readQuestion_102 x0 x4 s0 h = some (r, h')) : Ex Γ gX5_readQuestion d 102 [(0, .ref x0), (4, .int x4)] [.int s0] h (some (.int r)) h' := by
  unfold f_X5_readQuestion_102 at H
  obtain ⟨d, rfl⟩ : ∃ e, d = e + 1 := ⟨d - 1, by omega⟩
  refine x_istore (lv' := [(5, .int s0), (0, .ref x0), (4, .int x4)]) dX5_readQuestion_102 (by decide) rfl rfl ?_
  refine x_iload dX5_readQuestion_104 0 rfl ?_
  refine x_if_eq (tgt := 133) dX5_readQuestion_106 (by decide) (fun c2 => ?_) (fun c2 => ?_)
  · replace H := ite_p H c2
    refine Ex.sub [2, 0] rfl ?_
    exact t_X5_readQuestion_133 hd H
  · replace H := ite_m H c2
    refine x_aload_n dX5_readQuestion_109 rfl 1 rfl ?_
    obtain ⟨c3, H⟩ := ko_o H
    obtain ⟨a4, c5, H⟩ := kr_o H
    refine x_getR fr_X5_23 dX5_readQuestion_110 c3 rfl c5 ?_
    obtain ⟨c6, H⟩ := ko_o H
    refine x_getI fr_X5_46 dX5_readQuestion_113 c6 rfl ?_
    refine x_if_eq (tgt := 133) dX5_readQuestion_116 (by decide) (fun c7 => ?_) (fun c7 => ?_)
    · replace H := ite_p H c7
      refine Ex.sub [2, 0] rfl ?_
      exact t_X5_readQuestion_133 hd H
    · replace H := ite_m H c7
      refine x_aload_n dX5_readQuestion_119 rfl 1 rfl ?_
      refine x_iconst (v := 1) dX5_readQuestion_120 (by decide) ?_
      refine x_aload_n dX5_readQuestion_121 rfl 1 rfl ?_
      refine x_getR fr_X5_23 dX5_readQuestion_122 c3 rfl c5 ?_
      refine x_getI fr_X5_60 dX5_readQuestion_125 c6 rfl ?_
      obtain ⟨v8, h9, hc10, H⟩ := bd_o H
      refine x_callVi (As := [.int 1, .int (hI h a4 3)]) (q := (RX5, TX5, 5)) dX5_readQuestion_128 mi_X5_fail lk_X5_63 im_X5_fail se_X5_fail rfl c3 rfl rfl (Nat.le_of_ble_eq_true rfl) (t_X5_fail (by omega) hc10) ?_
      refine x_istore (lv' := [(5, .int v8), (0, .ref x0), (4, .int x4)]) dX5_readQuestion_131 (by decide) rfl rfl ?_
      refine Ex.sub [2, 0] rfl ?_
      exact t_X5_readQuestion_133 hd H
def f_X5_readQuestion_101 (x0 : Nat) (x4 : Int32) (h : aH) : Option (Int32 × aH) :=
  f_X5_readQuestion_102 x0 x4 0 h
set_option maxRecDepth 100000 in
set_option maxHeartbeats 4000000 in
theorem t_X5_readQuestion_101 {Γ : gS} {d : Nat} (hd : 110 ≤ d) {x0 : Nat} {x4 : Int32} {h : aH} {r : Int32} {h' : aH} (H : f_X5_readQuestion_101 x0 x4 h = some (r, h')) : Ex Γ gX5_readQuestion d 101 [(0, .ref x0), (4, .int x4)] [] h (some (.int r)) h' := by
  unfold f_X5_readQuestion_101 at H
  obtain ⟨d, rfl⟩ : ∃ e, d = e + 1 := ⟨d - 1, by omega⟩
  refine x_iconst (v := 0) dX5_readQuestion_101 (by decide) ?_
  exact t_X5_readQuestion_102 hd H
def f_X5_readQuestion_89 (x0 : Nat) (x4 : Int32) (h : aH) : Option (Int32 × aH) :=
  ko h x0 5 <|
  bd (f_X5_ends x0 0 h) fun v11 h12 =>
  if v11 = 0 then
    f_X5_readQuestion_101 x0 x4 h12
  else
    f_X5_readQuestion_102 x0 x4 1 h12
set_option maxRecDepth 100000 in
set_option maxHeartbeats 4000000 in
theorem t_X5_readQuestion_89 {Γ : gS} {d : Nat} (hd : 110 ≤ d) {x0 : Nat} {x4 : Int32} {h : aH} {r : Int32} {h' : aH} (H : f_X5_readQuestion_89 x0 x4 h = some (r, h')) : Ex Γ gX5_readQuestion d 89 [(0, .ref x0), (4, .int x4)] [] h (some (.int r)) h' := by
  unfold f_X5_readQuestion_89 at H
  obtain ⟨d, rfl⟩ : ∃ e, d = e + 1 := ⟨d - 1, by omega⟩
  refine x_aload_n dX5_readQuestion_89 rfl 0 rfl ?_
  refine x_iconst (v := 0) dX5_readQuestion_90 (by decide) ?_
  obtain ⟨c15, H⟩ := ko_o H
  obtain ⟨v11, h12, hc13, H⟩ := bd_o H
  refine x_callVi (As := [.int 0]) (q := (RX5, TX5, 5)) dX5_readQuestion_91 mi_X5_ends lk_X5_82 im_X5_ends se_X5_ends rfl c15 rfl rfl (Nat.le_of_ble_eq_true rfl) (t_X5_ends (by omega) hc13) ?_
  refine x_if_eq (tgt := 101) dX5_readQuestion_94 (by decide) (fun c14 => ?_) (fun c14 => ?_)
  · replace H := ite_p H c14
    exact t_X5_readQuestion_101 hd H
  · replace H := ite_m H c14
    refine x_iconst (v := 1) dX5_readQuestion_97 (by decide) ?_
    refine x_goto (tgt := 102) dX5_readQuestion_98 (by decide) ?_
    exact t_X5_readQuestion_102 hd H
def f_X5_readQuestion_29 (x0 : Nat) (s0 : Int32) (h : aH) : Option (Int32 × aH) :=
  if 25 ≤ s0 then
    ko h x0 5 <|
    bd (f_X5_begins x0 0 523272 h) fun v17 h18 =>
    if v17 = 0 then
      f_X5_readQuestion_101 x0 s0 h18
    else
      if 27 < s0 then
        ko h18 x0 5 <|
        bd (f_P 100 3 x0 0 h18) fun v22 h23 =>
        if v22 = 0 then
          f_X5_readQuestion_101 x0 s0 h23
        else
          f_X5_readQuestion_89 x0 s0 h23
      else
        ko h18 x0 5 <|
        bd (f_P 100 0 x0 0 h18) fun v27 h28 =>
        if v27 = 0 then
          f_X5_readQuestion_101 x0 s0 h28
        else
          f_X5_readQuestion_89 x0 s0 h28
  else
    ko h x0 5 <|
    kr (hR h x0 2) fun a34 =>
    ko h a34 7 <|
    bd (f_X5_fail x0 1 (hI h a34 3) h) fun v37 h38 =>
    some ((-1), h38)
set_option maxRecDepth 100000 in
set_option maxHeartbeats 4000000 in
theorem t_X5_readQuestion_29 {Γ : gS} {d : Nat} (hd : 110 ≤ d) {x0 : Nat} {s0 : Int32} {h : aH} {r : Int32} {h' : aH} (H : f_X5_readQuestion_29 x0 s0 h = some (r, h')) : Ex Γ gX5_readQuestion d 29 [(0, .ref x0)] [.int s0] h (some (.int r)) h' := by
  unfold f_X5_readQuestion_29 at H
  obtain ⟨d, rfl⟩ : ∃ e, d = e + 1 := ⟨d - 1, by omega⟩
  refine x_istore (lv' := [(4, .int s0), (0, .ref x0)]) dX5_readQuestion_29 (by decide) rfl rfl ?_
  refine x_iload dX5_readQuestion_31 0 rfl ?_
  refine x_bipush (v := 25) dX5_readQuestion_33 (by decide) ?_
  refine x_icmp_ge (tgt := 53) dX5_readQuestion_35 (by decide) (fun c16 => ?_) (fun c16 => ?_)
  · replace H := ite_p H c16
    refine x_aload_n dX5_readQuestion_53 rfl 1 rfl ?_
    refine x_iconst (v := 0) dX5_readQuestion_54 (by decide) ?_
    refine x_ldc kc_X5_137 dX5_readQuestion_55 ?_
    obtain ⟨c32, H⟩ := ko_o H
    obtain ⟨v17, h18, hc19, H⟩ := bd_o H
    refine x_callVi (As := [.int 0, .int 523272]) (q := (RX5, TX5, 5)) dX5_readQuestion_57 mi_X5_begins lk_X5_76 im_X5_begins se_X5_begins rfl c32 rfl rfl (Nat.le_of_ble_eq_true rfl) (t_X5_begins (by omega) hc19) ?_
    refine x_if_eq (tgt := 101) dX5_readQuestion_60 (by decide) (fun c20 => ?_) (fun c20 => ?_)
    · replace H := ite_p H c20
      refine Ex.sub [1, 0] rfl ?_
      exact t_X5_readQuestion_101 hd H
    · replace H := ite_m H c20
      refine x_iload dX5_readQuestion_63 0 rfl ?_
      refine x_bipush (v := 27) dX5_readQuestion_65 (by decide) ?_
      refine x_icmp_gt (tgt := 81) dX5_readQuestion_67 (by decide) (fun c21 => ?_) (fun c21 => ?_)
      · replace H := ite_p H c21
        refine x_aload_n dX5_readQuestion_81 rfl 1 rfl ?_
        refine x_iconst (v := 0) dX5_readQuestion_82 (by decide) ?_
        obtain ⟨c26, H⟩ := ko_o H
        obtain ⟨v22, h23, hc24, H⟩ := bd_o H
        refine x_callVi (As := [.int 0]) (q := (RX5, TX5, 5)) dX5_readQuestion_83 mi_X5_sum lk_X5_79 im_X5_sum se_X5_sum rfl c26 rfl rfl (Nat.le_of_ble_eq_true rfl) (ts_X5_sum (by omega) hc24) ?_
        refine x_if_eq (tgt := 101) dX5_readQuestion_86 (by decide) (fun c25 => ?_) (fun c25 => ?_)
        · replace H := ite_p H c25
          refine Ex.sub [1, 0] rfl ?_
          exact t_X5_readQuestion_101 hd H
        · replace H := ite_m H c25
          refine Ex.sub [1, 0] rfl ?_
          exact t_X5_readQuestion_89 hd H
      · replace H := ite_m H c21
        refine x_aload_n dX5_readQuestion_70 rfl 1 rfl ?_
        refine x_iconst (v := 0) dX5_readQuestion_71 (by decide) ?_
        obtain ⟨c31, H⟩ := ko_o H
        obtain ⟨v27, h28, hc29, H⟩ := bd_o H
        refine x_callVi (As := [.int 0]) (q := (RX5, TX5, 5)) dX5_readQuestion_72 mi_X5_test lk_X5_85 im_X5_test se_X5_test rfl c31 rfl rfl (Nat.le_of_ble_eq_true rfl) (ts_X5_test (by omega) hc29) ?_
        refine x_if_eq (tgt := 101) dX5_readQuestion_75 (by decide) (fun c30 => ?_) (fun c30 => ?_)
        · replace H := ite_p H c30
          refine Ex.sub [1, 0] rfl ?_
          exact t_X5_readQuestion_101 hd H
        · replace H := ite_m H c30
          refine x_goto (tgt := 89) dX5_readQuestion_78 (by decide) ?_
          refine Ex.sub [1, 0] rfl ?_
          exact t_X5_readQuestion_89 hd H
  · replace H := ite_m H c16
    refine x_aload_n dX5_readQuestion_38 rfl 1 rfl ?_
    refine x_iconst (v := 1) dX5_readQuestion_39 (by decide) ?_
    refine x_aload_n dX5_readQuestion_40 rfl 1 rfl ?_
    obtain ⟨c33, H⟩ := ko_o H
    obtain ⟨a34, c35, H⟩ := kr_o H
    refine x_getR fr_X5_23 dX5_readQuestion_41 c33 rfl c35 ?_
    obtain ⟨c36, H⟩ := ko_o H
    refine x_getI fr_X5_60 dX5_readQuestion_44 c36 rfl ?_
    obtain ⟨v37, h38, hc39, H⟩ := bd_o H
    refine x_callVi (As := [.int 1, .int (hI h a34 3)]) (q := (RX5, TX5, 5)) dX5_readQuestion_47 mi_X5_fail lk_X5_63 im_X5_fail se_X5_fail rfl c33 rfl rfl (Nat.le_of_ble_eq_true rfl) (t_X5_fail (by omega) hc39) ?_
    refine x_pop dX5_readQuestion_50 rfl ?_
    refine x_iconst (v := (-1)) dX5_readQuestion_51 (by decide) ?_
    obtain ⟨rfl, rfl⟩ := so_1 H
    exact x_iret dX5_readQuestion_52 rfl rfl
def f_X5_readQuestion (x0 : Nat) (x1 : Nat) (x2 : Int32) (x3 : Nat) (h : aH) : Option (Int32 × aH) :=
  ko h x0 5 <|
  bd (f_X5_begin x0 x1 x2 x3 h) fun _ h41 =>
  ko h41 x0 5 <|
  kr (hR h41 x0 2) fun a44 =>
  ko h41 a44 7 <|
  if (hI h41 a44 2) = 1 then
    f_X5_readQuestion_29 x0 (hI h41 a44 5) h41
  else
    f_X5_readQuestion_29 x0 (-1) h41
set_option maxRecDepth 100000 in
set_option maxHeartbeats 4000000 in
theorem t_X5_readQuestion {Γ : gS} {d : Nat} (hd : 110 ≤ d) {x0 : Nat} {x1 : Nat} {x2 : Int32} {x3 : Nat} {h : aH} {r : Int32} {h' : aH} (H : f_X5_readQuestion x0 x1 x2 x3 h = some (r, h')) : Mx Γ gX5_readQuestion d [.ref x0, .ref x1, .int x2, .ref x3] h (some (.int r)) h' := by
  refine Mx.of (by decide +kernel) (Nat.le_of_ble_eq_true rfl) ?_
  unfold f_X5_readQuestion at H
  show Ex Γ gX5_readQuestion d 0 [(0, .ref x0), (1, .ref x1), (2, .int x2), (3, .ref x3)] [] h (some (.int r)) h'
  obtain ⟨d, rfl⟩ : ∃ e, d = e + 1 := ⟨d - 1, by omega⟩
  refine x_aload_n dX5_readQuestion_0 rfl 0 rfl ?_
  refine x_aload_n dX5_readQuestion_1 rfl 1 rfl ?_
  refine x_iload_n dX5_readQuestion_2 rfl 2 rfl ?_
  refine x_aload_n dX5_readQuestion_3 rfl 3 rfl ?_
  obtain ⟨c48, H⟩ := ko_o H
  obtain ⟨v40, h41, hc42, H⟩ := bd_o H
  refine x_callVv (As := [.ref x1, .int x2, .ref x3]) (q := (RX5, TX5, 5)) dX5_readQuestion_4 mi_X5_begin lk_X5_43 im_X5_begin se_X5_begin rfl c48 rfl rfl (Nat.le_of_ble_eq_true rfl) (t_X5_begin (by omega) hc42) ?_
  refine x_aload_n dX5_readQuestion_7 rfl 0 rfl ?_
  obtain ⟨c43, H⟩ := ko_o H
  obtain ⟨a44, c45, H⟩ := kr_o H
  refine x_getR fr_X5_23 dX5_readQuestion_8 c43 rfl c45 ?_
  obtain ⟨c46, H⟩ := ko_o H
  refine x_getI fr_X5_46 dX5_readQuestion_11 c46 rfl ?_
  refine x_iconst (v := 1) dX5_readQuestion_14 (by decide) ?_
  refine x_icmp_ne (tgt := 28) dX5_readQuestion_15 (by decide) (fun c47 => ?_) (fun c47 => ?_)
  · replace H := ite_m H c47
    refine x_iconst (v := (-1)) dX5_readQuestion_28 (by decide) ?_
    refine Ex.sub [0] rfl ?_
    exact t_X5_readQuestion_29 hd H
  · replace H := ite_p H c47
    refine x_aload_n dX5_readQuestion_18 rfl 0 rfl ?_
    refine x_getR fr_X5_23 dX5_readQuestion_19 c43 rfl c45 ?_
    refine x_getI fr_X5_70 dX5_readQuestion_22 c46 rfl ?_
    refine x_goto (tgt := 29) dX5_readQuestion_25 (by decide) ?_
    refine Ex.sub [0] rfl ?_
    exact t_X5_readQuestion_29 hd H
