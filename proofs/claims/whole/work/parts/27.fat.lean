def f_X11_init (x0 : Nat) (h : aH) : Option (Unit × aH) :=
  nm (hN h) fun (a2 : Nat) =>
  nm (nw h (.inr (.byte, 1600)) 1600) fun (h1 : aH) =>
  ko h1 x0 10 <|
  nm (hN (sR h1 x0 0 (some a2))) fun (a5 : Nat) =>
  nm (nw (sR h1 x0 0 (some a2)) (.inr (.int, 8)) 8) fun (h4 : aH) =>
  ko h4 x0 10 <|
  nm (hN (sR h4 x0 1 (some a5))) fun (a8 : Nat) =>
  nm (nw (sR h4 x0 1 (some a5)) (.inl 9) 8) fun (h7 : aH) =>
  bd (f_X9_init a8 h7) fun _ h10 =>
  ko h10 x0 10 <|
  nm (hN (sR h10 x0 2 (some a8))) fun (a14 : Nat) =>
  nm (nw (sR h10 x0 2 (some a8)) (.inl 9) 8) fun (h13 : aH) =>
  bd (f_X9_init a14 h13) fun _ h16 =>
  ko h16 x0 10 <|
  nm (hN (sR h16 x0 3 (some a14))) fun (a20 : Nat) =>
  nm (nw (sR h16 x0 3 (some a14)) (.inl 2) 3) fun (h19 : aH) =>
  bd (f_X2_init a20 h19) fun _ h22 =>
  ko h22 x0 10 <|
  nm (hN (sR h22 x0 4 (some a20))) fun (a26 : Nat) =>
  nm (nw (sR h22 x0 4 (some a20)) (.inl 0) 6) fun (h25 : aH) =>
  ko h25 x0 10 <|
  kr (hR h25 x0 2) fun a28 =>
  ko h25 a28 9 <|
  kr (hR h25 a28 0) fun a31 =>
  bd (f_X0_init a26 a31 h25) fun _ h34 =>
  ko h34 x0 10 <|
  nm (hN (sR h34 x0 5 (some a26))) fun (a38 : Nat) =>
  nm (nw (sR h34 x0 5 (some a26)) (.inl 1) 5) fun (h37 : aH) =>
  ko h37 x0 10 <|
  kr (hR h37 x0 2) fun a40 =>
  kr (hR h37 x0 5) fun a42 =>
  bd (f_X1_init a38 a40 a42 h37) fun _ h45 =>
  ko h45 x0 10 <|
  nm (hN (sR h45 x0 6 (some a38))) fun (a49 : Nat) =>
  nm (nw (sR h45 x0 6 (some a38)) (.inl 8) 7) fun (h48 : aH) =>
  bd (f_X8_init a49 h48) fun _ h51 =>
  ko h51 x0 10 <|
  nm (hN (sR h51 x0 7 (some a49))) fun (a55 : Nat) =>
  nm (nw (sR h51 x0 7 (some a49)) (.inl 3) 2) fun (h54 : aH) =>
  bd (f_X3_init a55 h54) fun _ h57 =>
  ko h57 x0 10 <|
  nm (hN (sR h57 x0 8 (some a55))) fun (a61 : Nat) =>
  nm (nw (sR h57 x0 8 (some a55)) (.inl 4) 10) fun (h60 : aH) =>
  bd (f_X4_init a61 h60) fun _ h63 =>
  ko h63 x0 10 <|
  nm (hN (sR h63 x0 9 (some a61))) fun (a67 : Nat) =>
  nm (nw (sR h63 x0 9 (some a61)) (.inl 4) 10) fun (h66 : aH) =>
  bd (f_X4_init a67 h66) fun _ h69 =>
  ko h69 x0 10 <|
  nm (hN (sR h69 x0 10 (some a67))) fun (a73 : Nat) =>
  nm (nw (sR h69 x0 10 (some a67)) (.inl 5) 5) fun (h72 : aH) =>
  ko h72 x0 10 <|
  kr (hR h72 x0 10) fun a75 =>
  bd (f_X5_init a73 a75 h72) fun _ h78 =>
  ko h78 x0 10 <|
  some ((), sL (sI (sI (sI (sI (sR h78 x0 11 (some a73)) x0 12 0) x0 13 0) x0 14 0) x0 15 (-1)) x0 16 1)
set_option maxRecDepth 100000 in
set_option maxHeartbeats 4000000 in
theorem t_X11_init {Γ : gS} {d : Nat} (hd : 3 ≤ d) {x0 : Nat} {h : aH} {r : Unit} {h' : aH} (H : f_X11_init x0 h = some (r, h')) : Mx Γ gX11_init d [.ref x0] h none h' := by
  refine Mx.of (by decide +kernel) (Nat.le_of_ble_eq_true rfl) ?_
  unfold f_X11_init at H
  show Ex Γ gX11_init d 0 [(0, .ref x0)] [] h none h'
  obtain ⟨d, rfl⟩ : ∃ e, d = e + 1 := ⟨d - 1, by omega⟩
  refine x_aload_n dX11_init_0 rfl 0 rfl ?_
  refine x_oinit dX11_init_1 lk_X11_1 im_obj co_obj (Nat.le_of_ble_eq_true rfl) ?_
  refine x_aload_n dX11_init_4 rfl 0 rfl ?_
  refine x_sipush (v := 1600) dX11_init_5 (by decide) ?_
  obtain ⟨a2, ea2, H⟩ := nm_o H
  obtain ⟨h1, eh1, H⟩ := nm_o H
  refine x_newa (t := .byte) (N := 1600) dX11_init_8 rfl (by decide) rfl ac_byte (by decide) (by decide) (by decide) ?_
  rw [ea2]
  refine Ex.ren eh1 ?_
  obtain ⟨c3, H⟩ := ko_o H
  refine x_putR fl_X11_9 dX11_init_10 c3 (fun _ => rfl) rfl ?_
  refine x_aload_n dX11_init_13 rfl 0 rfl ?_
  refine x_bipush (v := 8) dX11_init_14 (by decide) ?_
  obtain ⟨a5, ea5, H⟩ := nm_o H
  obtain ⟨h4, eh4, H⟩ := nm_o H
  refine x_newa (t := .int) (N := 8) dX11_init_16 rfl (by decide) rfl ac_int (by decide) (by decide) (by decide) ?_
  rw [ea5]
  refine Ex.ren eh4 ?_
  obtain ⟨c6, H⟩ := ko_o H
  refine x_putR fl_X11_13 dX11_init_18 c6 (fun _ => rfl) rfl ?_
  refine x_aload_n dX11_init_21 rfl 0 rfl ?_
  obtain ⟨a8, ea8, H⟩ := nm_o H
  obtain ⟨h7, eh7, H⟩ := nm_o H
  refine x_new (q := (RX9, TX9, 8)) dX11_init_22 ck9 rfl cl_X11_17 is_X9 ii_X9 ?_
  rw [ea8]
  refine Ex.ren eh7 ?_
  refine x_dup dX11_init_25 rfl ?_
  obtain ⟨v9, h10, hc11, H⟩ := bd_o H
  refine x_callIv (As := []) dX11_init_26 mi_X9_init lk_X11_19 im_X9_init rfl rfl rfl (Nat.le_of_ble_eq_true rfl) (t_X9_init (by omega) hc11) ?_
  obtain ⟨c12, H⟩ := ko_o H
  refine x_putR fl_X11_20 dX11_init_29 c12 (fun _ => rfl) rfl ?_
  refine x_aload_n dX11_init_32 rfl 0 rfl ?_
  obtain ⟨a14, ea14, H⟩ := nm_o H
  obtain ⟨h13, eh13, H⟩ := nm_o H
  refine x_new (q := (RX9, TX9, 8)) dX11_init_33 ck9 rfl cl_X11_17 is_X9 ii_X9 ?_
  rw [ea14]
  refine Ex.ren eh13 ?_
  refine x_dup dX11_init_36 rfl ?_
  obtain ⟨v15, h16, hc17, H⟩ := bd_o H
  refine x_callIv (As := []) dX11_init_37 mi_X9_init lk_X11_19 im_X9_init rfl rfl rfl (Nat.le_of_ble_eq_true rfl) (t_X9_init (by omega) hc17) ?_
  obtain ⟨c18, H⟩ := ko_o H
  refine x_putR fl_X11_24 dX11_init_40 c18 (fun _ => rfl) rfl ?_
  refine x_aload_n dX11_init_43 rfl 0 rfl ?_
  obtain ⟨a20, ea20, H⟩ := nm_o H
  obtain ⟨h19, eh19, H⟩ := nm_o H
  refine x_new (q := (RX2, TX2, 3)) dX11_init_44 ck2 rfl cl_X11_27 is_X2 ii_X2 ?_
  rw [ea20]
  refine Ex.ren eh19 ?_
  refine x_dup dX11_init_47 rfl ?_
  obtain ⟨v21, h22, hc23, H⟩ := bd_o H
  refine x_callINv (As := []) (host := "FatPointers") dX11_init_48 mi_X2_init (by decide) im_X2_init rfl rfl rfl (Nat.le_of_ble_eq_true rfl) (t_X2_init (by omega) hc23) ?_
  obtain ⟨c24, H⟩ := ko_o H
  refine x_putR fl_X11_30 dX11_init_51 c24 (fun _ => rfl) rfl ?_
  refine x_aload_n dX11_init_54 rfl 0 rfl ?_
  obtain ⟨a26, ea26, H⟩ := nm_o H
  obtain ⟨h25, eh25, H⟩ := nm_o H
  refine x_new (q := (RX0, TX0, 6)) dX11_init_55 ck0 rfl cl_X11_34 is_X0 ii_X0 ?_
  rw [ea26]
  refine Ex.ren eh25 ?_
  refine x_dup dX11_init_58 rfl ?_
  refine x_aload_n dX11_init_59 rfl 0 rfl ?_
  obtain ⟨c27, H⟩ := ko_o H
  obtain ⟨a28, c29, H⟩ := kr_o H
  refine x_getR fr_X11_20 dX11_init_60 c27 rfl c29 ?_
  obtain ⟨c30, H⟩ := ko_o H
  obtain ⟨a31, c32, H⟩ := kr_o H
  refine x_getR fr_X11_36 dX11_init_63 c30 rfl c32 ?_
  obtain ⟨v33, h34, hc35, H⟩ := bd_o H
  refine x_callIv (As := [.ref a31]) dX11_init_66 mi_X0_init lk_X11_40 im_X0_init rfl rfl rfl (Nat.le_of_ble_eq_true rfl) (t_X0_init (by omega) hc35) ?_
  obtain ⟨c36, H⟩ := ko_o H
  refine x_putR fl_X11_43 dX11_init_69 c36 (fun _ => rfl) rfl ?_
  refine x_aload_n dX11_init_72 rfl 0 rfl ?_
  obtain ⟨a38, ea38, H⟩ := nm_o H
  obtain ⟨h37, eh37, H⟩ := nm_o H
  refine x_new (q := (RX1, TX1, 5)) dX11_init_73 ck1 rfl cl_X11_47 is_X1 ii_X1 ?_
  rw [ea38]
  refine Ex.ren eh37 ?_
  refine x_dup dX11_init_76 rfl ?_
  refine x_aload_n dX11_init_77 rfl 0 rfl ?_
  obtain ⟨c39, H⟩ := ko_o H
  obtain ⟨a40, c41, H⟩ := kr_o H
  refine x_getR fr_X11_20 dX11_init_78 c39 rfl c41 ?_
  refine x_aload_n dX11_init_81 rfl 0 rfl ?_
  obtain ⟨a42, c43, H⟩ := kr_o H
  refine x_getR fr_X11_43 dX11_init_82 c39 rfl c43 ?_
  obtain ⟨v44, h45, hc46, H⟩ := bd_o H
  refine x_callIv (As := [.ref a40, .ref a42]) dX11_init_85 mi_X1_init lk_X11_49 im_X1_init rfl rfl rfl (Nat.le_of_ble_eq_true rfl) (t_X1_init (by omega) hc46) ?_
  obtain ⟨c47, H⟩ := ko_o H
  refine x_putR fl_X11_52 dX11_init_88 c47 (fun _ => rfl) rfl ?_
  refine x_aload_n dX11_init_91 rfl 0 rfl ?_
  obtain ⟨a49, ea49, H⟩ := nm_o H
  obtain ⟨h48, eh48, H⟩ := nm_o H
  refine x_new (q := (RX8, TX8, 7)) dX11_init_92 ck8 rfl cl_X11_56 is_X8 ii_X8 ?_
  rw [ea49]
  refine Ex.ren eh48 ?_
  refine x_dup dX11_init_95 rfl ?_
  obtain ⟨v50, h51, hc52, H⟩ := bd_o H
  refine x_callINv (As := []) (host := "FatPointers") dX11_init_96 mi_X8_init (by decide) im_X8_init rfl rfl rfl (Nat.le_of_ble_eq_true rfl) (t_X8_init (by omega) hc52) ?_
  obtain ⟨c53, H⟩ := ko_o H
  refine x_putR fl_X11_59 dX11_init_99 c53 (fun _ => rfl) rfl ?_
  refine x_aload_n dX11_init_102 rfl 0 rfl ?_
  obtain ⟨a55, ea55, H⟩ := nm_o H
  obtain ⟨h54, eh54, H⟩ := nm_o H
  refine x_new (q := (RX3, TX3, 2)) dX11_init_103 ck3 rfl cl_X11_63 is_X3 ii_X3 ?_
  rw [ea55]
  refine Ex.ren eh54 ?_
  refine x_dup dX11_init_106 rfl ?_
  obtain ⟨v56, h57, hc58, H⟩ := bd_o H
  refine x_callINv (As := []) (host := "FatPointers") dX11_init_107 mi_X3_init (by decide) im_X3_init rfl rfl rfl (Nat.le_of_ble_eq_true rfl) (t_X3_init (by omega) hc58) ?_
  obtain ⟨c59, H⟩ := ko_o H
  refine x_putR fl_X11_66 dX11_init_110 c59 (fun _ => rfl) rfl ?_
  refine x_aload_n dX11_init_113 rfl 0 rfl ?_
  obtain ⟨a61, ea61, H⟩ := nm_o H
  obtain ⟨h60, eh60, H⟩ := nm_o H
  refine x_new (q := (RX4, TX4, 10)) dX11_init_114 ck4 rfl cl_X11_70 is_X4 ii_X4 ?_
  rw [ea61]
  refine Ex.ren eh60 ?_
  refine x_dup dX11_init_117 rfl ?_
  obtain ⟨v62, h63, hc64, H⟩ := bd_o H
  refine x_callINv (As := []) (host := "FatPointers") dX11_init_118 mi_X4_init (by decide) im_X4_init rfl rfl rfl (Nat.le_of_ble_eq_true rfl) (t_X4_init (by omega) hc64) ?_
  obtain ⟨c65, H⟩ := ko_o H
  refine x_putR fl_X11_73 dX11_init_121 c65 (fun e => by cases e) rfl ?_
  refine x_aload_n dX11_init_124 rfl 0 rfl ?_
  obtain ⟨a67, ea67, H⟩ := nm_o H
  obtain ⟨h66, eh66, H⟩ := nm_o H
  refine x_new (q := (RX4, TX4, 10)) dX11_init_125 ck4 rfl cl_X11_70 is_X4 ii_X4 ?_
  rw [ea67]
  refine Ex.ren eh66 ?_
  refine x_dup dX11_init_128 rfl ?_
  obtain ⟨v68, h69, hc70, H⟩ := bd_o H
  refine x_callINv (As := []) (host := "FatPointers") dX11_init_129 mi_X4_init (by decide) im_X4_init rfl rfl rfl (Nat.le_of_ble_eq_true rfl) (t_X4_init (by omega) hc70) ?_
  obtain ⟨c71, H⟩ := ko_o H
  refine x_putR fl_X11_77 dX11_init_132 c71 (fun e => by cases e) rfl ?_
  refine x_aload_n dX11_init_135 rfl 0 rfl ?_
  obtain ⟨a73, ea73, H⟩ := nm_o H
  obtain ⟨h72, eh72, H⟩ := nm_o H
  refine x_new (q := (RX5, TX5, 5)) dX11_init_136 ck5 rfl cl_X11_80 is_X5 ii_X5 ?_
  rw [ea73]
  refine Ex.ren eh72 ?_
  refine x_dup dX11_init_139 rfl ?_
  refine x_aload_n dX11_init_140 rfl 0 rfl ?_
  obtain ⟨c74, H⟩ := ko_o H
  obtain ⟨a75, c76, H⟩ := kr_o H
  refine x_getR fr_X11_77 dX11_init_141 c74 rfl c76 ?_
  obtain ⟨v77, h78, hc79, H⟩ := bd_o H
  refine x_callIv (As := [.ref a75]) dX11_init_144 mi_X5_init lk_X11_82 im_X5_init rfl rfl rfl (Nat.le_of_ble_eq_true rfl) (t_X5_init (by omega) hc79) ?_
  obtain ⟨c80, H⟩ := ko_o H
  refine x_putR fl_X11_85 dX11_init_147 c80 (fun _ => rfl) rfl ?_
  refine x_aload_n dX11_init_150 rfl 0 rfl ?_
  refine x_iconst (v := 0) dX11_init_151 (by decide) ?_
  refine x_putZ fl_X11_89 dX11_init_152 c80 (fun e => by cases e) rfl (by decide) ?_
  refine x_aload_n dX11_init_155 rfl 0 rfl ?_
  refine x_iconst (v := 0) dX11_init_156 (by decide) ?_
  refine x_putI fl_X11_93 dX11_init_157 c80 (fun e => by cases e) rfl ?_
  refine x_aload_n dX11_init_160 rfl 0 rfl ?_
  refine x_iconst (v := 0) dX11_init_161 (by decide) ?_
  refine x_putI fl_X11_97 dX11_init_162 c80 (fun e => by cases e) rfl ?_
  refine x_aload_n dX11_init_165 rfl 0 rfl ?_
  refine x_iconst (v := (-1)) dX11_init_166 (by decide) ?_
  refine x_putI fl_X11_100 dX11_init_167 c80 (fun e => by cases e) rfl ?_
  refine x_aload_n dX11_init_170 rfl 0 rfl ?_
  refine x_lconst (v := 1) dX11_init_171 (by decide) ?_
  refine x_putL fl_X11_103 dX11_init_172 c80 (fun e => by cases e) rfl ?_
  obtain ⟨-, rfl⟩ := so_1 H
  exact x_vret dX11_init_175 rfl
def f_X11_put_46 (h : aH) : Option (Unit × aH) :=
  some ((), h)
set_option maxRecDepth 100000 in
set_option maxHeartbeats 4000000 in
theorem t_X11_put_46 {Γ : gS} {d : Nat} (hd : 0 ≤ d) {h : aH} {r : Unit} {h' : aH} (H : f_X11_put_46 h = some (r, h')) : Ex Γ gX11_put d 46 [] [] h none h' := by
  unfold f_X11_put_46 at H
  obtain ⟨-, rfl⟩ := so_1 H
  exact x_vret dX11_put_46 rfl
def b_X11_put_3 (k3 : Nat → Int32 → Int32 → aH → Option (Unit × aH)) (x0 : Nat) (x1 : Int32) (x2 : Int32) (h : aH) : Option (Unit × aH) :=
  if x2 < 0 then
    f_X11_put_46 h
  else
    ko h x0 10 <|
    if 1600 ≤ (hI h x0 13) then
      f_X11_put_46 h
    else
      kr (hR h x0 0) fun a4 =>
      ka h a4 .byte fun n7 =>
      chk (inb (hI h x0 13) n7 = true) <|
      nm (hI (sI h a4 (hI h x0 13 : Int32).toNatClampNeg (((x1 >>> (x2 &&& 31) : Int32).toInt8.toInt32 : Int32).toInt8.toInt32)) x0 13) fun (v9 : Int32) =>
      nm (x2 + (-8)) fun (v10 : Int32) =>
      k3 x0 x1 v10 (sI (sI h a4 (hI h x0 13 : Int32).toNatClampNeg (((x1 >>> (x2 &&& 31) : Int32).toInt8.toInt32 : Int32).toInt8.toInt32)) x0 13 (v9 + 1))
set_option maxRecDepth 100000 in
set_option maxHeartbeats 4000000 in
theorem tb_X11_put_3 {Γ : gS} {d : Nat} (hd : 0 ≤ d) {k3 : Nat → Int32 → Int32 → aH → Option (Unit × aH)} (hk3 : ∀ {x0 : Nat} {x1 : Int32} {x2 : Int32} {h : aH} {r : Unit} {h' : aH}, k3 x0 x1 x2 h = some (r, h') → Ex Γ gX11_put d 3 [(0, .ref x0), (1, .int x1), (2, .int x2)] [] h none h') {x0 : Nat} {x1 : Int32} {x2 : Int32} {h : aH} {r : Unit} {h' : aH} (H : b_X11_put_3 k3 x0 x1 x2 h = some (r, h')) : Ex Γ gX11_put d 3 [(0, .ref x0), (1, .int x1), (2, .int x2)] [] h none h' := by
  unfold b_X11_put_3 at H
  refine x_iload_n dX11_put_3 rfl 2 rfl ?_
  refine x_if_lt (tgt := 46) dX11_put_4 (by decide) (fun c1 => ?_) (fun c1 => ?_)
  · replace H := ite_p H c1
    refine Ex.sub [] rfl ?_
    exact t_X11_put_46 hd H
  · replace H := ite_m H c1
    refine x_aload_n dX11_put_7 rfl 0 rfl ?_
    obtain ⟨c2, H⟩ := ko_o H
    refine x_getI fr_X11_93 dX11_put_8 c2 rfl ?_
    refine x_sipush (v := 1600) dX11_put_11 (by decide) ?_
    refine x_icmp_ge (tgt := 46) dX11_put_14 (by decide) (fun c3 => ?_) (fun c3 => ?_)
    · replace H := ite_p H c3
      refine Ex.sub [] rfl ?_
      exact t_X11_put_46 hd H
    · replace H := ite_m H c3
      refine x_aload_n dX11_put_17 rfl 0 rfl ?_
      obtain ⟨a4, c5, H⟩ := kr_o H
      refine x_getR fr_X11_9 dX11_put_18 c2 rfl c5 ?_
      refine x_aload_n dX11_put_21 rfl 0 rfl ?_
      refine x_getI fr_X11_93 dX11_put_22 c2 rfl ?_
      refine x_iload_n dX11_put_25 rfl 1 rfl ?_
      refine x_iload_n dX11_put_26 rfl 2 rfl ?_
      refine x_ishr dX11_put_27 ?_
      refine x_i2b dX11_put_28 ?_
      obtain ⟨n7, c6, H⟩ := ka_o H
      obtain ⟨c8, H⟩ := chk_o H
      refine x_bast dX11_put_29 c6 (inb_in.mp c8) ?_
      refine x_aload_n dX11_put_30 rfl 0 rfl ?_
      refine x_dup dX11_put_31 rfl ?_
      obtain ⟨v9, ev9, H⟩ := nm_o H
      refine x_getIe fr_X11_93 dX11_put_32 c2 rfl ev9 ?_
      refine x_iconst (v := 1) dX11_put_35 (by decide) ?_
      refine x_iadd dX11_put_36 ?_
      refine x_putI fl_X11_93 dX11_put_37 c2 (fun e => by cases e) rfl ?_
      obtain ⟨v10, ev10, H⟩ := nm_o H
      refine x_iinc (v := v10) (lv' := [(2, .int v10), (0, .ref x0), (1, .int x1)]) dX11_put_40 2 rfl (by decide) ev10 rfl ?_
      refine x_goto (tgt := 3) dX11_put_43 (by decide) ?_
      refine Ex.sub [1, 2, 0] rfl ?_
      exact hk3 H
def f_X11_put_3 : Nat → Nat → Int32 → Int32 → aH → Option (Unit × aH)
  | 0 => fun _ _ _ _ => none
  | n + 1 => b_X11_put_3 (f_X11_put_3 n)
set_option maxRecDepth 100000 in
set_option maxHeartbeats 4000000 in
theorem t_X11_put_3 {Γ : gS} {d : Nat} (hd : 0 ≤ d) (n : Nat) : ∀ {x0 : Nat} {x1 : Int32} {x2 : Int32} {h : aH} {r : Unit} {h' : aH}, f_X11_put_3 n x0 x1 x2 h = some (r, h') → Ex Γ gX11_put d 3 [(0, .ref x0), (1, .int x1), (2, .int x2)] [] h none h' := by
  induction n with
  | zero => intro x0 x1 x2 h r h' H; cases H
  | succ n ih => intro x0 x1 x2 h r h' H; exact tb_X11_put_3 hd ih H
def f_X11_put (x0 : Nat) (x1 : Int32) (h : aH) : Option (Unit × aH) :=
  f_X11_put_3 FU x0 x1 24 h
set_option maxRecDepth 100000 in
set_option maxHeartbeats 4000000 in
theorem t_X11_put {Γ : gS} {d : Nat} (hd : 0 ≤ d) {x0 : Nat} {x1 : Int32} {h : aH} {r : Unit} {h' : aH} (H : f_X11_put x0 x1 h = some (r, h')) : Mx Γ gX11_put d [.ref x0, .int x1] h none h' := by
  refine Mx.of (by decide +kernel) (Nat.le_of_ble_eq_true rfl) ?_
  unfold f_X11_put at H
  show Ex Γ gX11_put d 0 [(0, .ref x0), (1, .int x1)] [] h none h'
  refine x_bipush (v := 24) dX11_put_0 (by decide) ?_
  refine x_istore_n (lv' := [(2, .int 24), (0, .ref x0), (1, .int x1)]) dX11_put_2 rfl (by decide) rfl rfl ?_
  refine Ex.sub [1, 2, 0] rfl ?_
  exact t_X11_put_3 hd FU H
def f_X11_refuse_23 (h : aH) : Option (Int32 × aH) :=
  some ((-1), h)
set_option maxRecDepth 100000 in
set_option maxHeartbeats 4000000 in
theorem t_X11_refuse_23 {Γ : gS} {d : Nat} (hd : 0 ≤ d) {h : aH} {r : Int32} {h' : aH} (H : f_X11_refuse_23 h = some (r, h')) : Ex Γ gX11_refuse d 23 [] [] h (some (.int r)) h' := by
  unfold f_X11_refuse_23 at H
  refine x_iconst (v := (-1)) dX11_refuse_23 (by decide) ?_
  obtain ⟨rfl, rfl⟩ := so_1 H
  exact x_iret dX11_refuse_24 rfl rfl
def f_X11_refuse (x0 : Nat) (x1 : Int32) (h : aH) : Option (Int32 × aH) :=
  if x1 < 0 then
    f_X11_refuse_23 h
  else
    ko h x0 10 <|
    kr (hR h x0 1) fun a3 =>
    ka h a3 .int fun n6 =>
    if (Int32.ofNat n6) ≤ x1 then
      f_X11_refuse_23 h
    else
      chk (inb x1 n6 = true) <|
      f_X11_refuse_23 (sI h a3 x1.toNatClampNeg ((hI h a3 x1.toNatClampNeg) + 1))
set_option maxRecDepth 100000 in
set_option maxHeartbeats 4000000 in
theorem t_X11_refuse {Γ : gS} {d : Nat} (hd : 0 ≤ d) {x0 : Nat} {x1 : Int32} {h : aH} {r : Int32} {h' : aH} (H : f_X11_refuse x0 x1 h = some (r, h')) : Mx Γ gX11_refuse d [.ref x0, .int x1] h (some (.int r)) h' := by
  refine Mx.of (by decide +kernel) (Nat.le_of_ble_eq_true rfl) ?_
  unfold f_X11_refuse at H
  show Ex Γ gX11_refuse d 0 [(0, .ref x0), (1, .int x1)] [] h (some (.int r)) h'
  refine x_iload_n dX11_refuse_0 rfl 1 rfl ?_
  refine x_if_lt (tgt := 23) dX11_refuse_1 (by decide) (fun c1 => ?_) (fun c1 => ?_)
  · replace H := ite_p H c1
    refine Ex.sub [] rfl ?_
    exact t_X11_refuse_23 hd H
  · replace H := ite_m H c1
    refine x_iload_n dX11_refuse_4 rfl 1 rfl ?_
    refine x_aload_n dX11_refuse_5 rfl 0 rfl ?_
    obtain ⟨c2, H⟩ := ko_o H
    obtain ⟨a3, c4, H⟩ := kr_o H
    refine x_getR fr_X11_13 dX11_refuse_6 c2 rfl c4 ?_
    obtain ⟨n6, c5, H⟩ := ka_o H
    refine x_alen dX11_refuse_9 c5 (by decide) ?_
    refine x_icmp_ge (tgt := 23) dX11_refuse_10 (by decide) (fun c7 => ?_) (fun c7 => ?_)
    · replace H := ite_p H c7
      refine Ex.sub [] rfl ?_
      exact t_X11_refuse_23 hd H
    · replace H := ite_m H c7
      refine x_aload_n dX11_refuse_13 rfl 0 rfl ?_
      refine x_getR fr_X11_13 dX11_refuse_14 c2 rfl c4 ?_
      refine x_iload_n dX11_refuse_17 rfl 1 rfl ?_
      refine x_dup2 dX11_refuse_18 rfl rfl ?_
      obtain ⟨c8, H⟩ := chk_o H
      refine x_iald dX11_refuse_19 c5 (inb_in.mp c8) ?_
      refine x_iconst (v := 1) dX11_refuse_20 (by decide) ?_
      refine x_iadd dX11_refuse_21 ?_
      refine x_iast dX11_refuse_22 c5 (inb_in.mp c8) ?_
      refine Ex.sub [] rfl ?_
      exact t_X11_refuse_23 hd H
def f_X11_feed (x0 : Nat) (x1 : Int32) (x2 : Int32) (x3 : Int32) (x4 : Int32) (x5 : Int32) (h : aH) : Option (Int32 × aH) :=
  ko h x0 10 <|
  if (hI h x0 13) ≤ 1580 then
    bd (f_X11_put x0 x1 h) fun _ h4 =>
    ko h4 x0 10 <|
    bd (f_X11_put x0 x2 h4) fun _ h7 =>
    ko h7 x0 10 <|
    bd (f_X11_put x0 x3 h7) fun _ h10 =>
    ko h10 x0 10 <|
    bd (f_X11_put x0 x4 h10) fun _ h13 =>
    ko h13 x0 10 <|
    bd (f_X11_put x0 x5 h13) fun _ h16 =>
    ko h16 x0 10 <|
    some (hI h16 x0 13, h16)
  else
    bd (f_X11_refuse x0 0 h) fun v23 h24 =>
    some (v23, h24)
set_option maxRecDepth 100000 in
set_option maxHeartbeats 4000000 in
theorem t_X11_feed {Γ : gS} {d : Nat} (hd : 1 ≤ d) {x0 : Nat} {x1 : Int32} {x2 : Int32} {x3 : Int32} {x4 : Int32} {x5 : Int32} {h : aH} {r : Int32} {h' : aH} (H : f_X11_feed x0 x1 x2 x3 x4 x5 h = some (r, h')) : Mx Γ gX11_feed d [.ref x0, .int x1, .int x2, .int x3, .int x4, .int x5] h (some (.int r)) h' := by
  refine Mx.of (by decide +kernel) (Nat.le_of_ble_eq_true rfl) ?_
  unfold f_X11_feed at H
  show Ex Γ gX11_feed d 0 [(0, .ref x0), (1, .int x1), (2, .int x2), (3, .int x3), (4, .int x4), (5, .int x5)] [] h (some (.int r)) h'
  obtain ⟨d, rfl⟩ : ∃ e, d = e + 1 := ⟨d - 1, by omega⟩
  refine x_aload_n dX11_feed_0 rfl 0 rfl ?_
  obtain ⟨c1, H⟩ := ko_o H
  refine x_getI fr_X11_93 dX11_feed_1 c1 rfl ?_
  refine x_sipush (v := 1580) dX11_feed_4 (by decide) ?_
  refine x_icmp_le (tgt := 16) dX11_feed_7 (by decide) (fun c2 => ?_) (fun c2 => ?_)
  · replace H := ite_p H c2
    refine x_aload_n dX11_feed_16 rfl 0 rfl ?_
    refine x_iload_n dX11_feed_17 rfl 1 rfl ?_
    obtain ⟨v3, h4, hc5, H⟩ := bd_o H
    refine x_callVv (As := [.int x1]) (q := (RX11, TX11, 17)) dX11_feed_18 mi_X11_put lk_X11_111 im_X11_put se_X11_put rfl c1 rfl rfl (Nat.le_of_ble_eq_true rfl) (t_X11_put (by omega) hc5) ?_
    refine x_aload_n dX11_feed_21 rfl 0 rfl ?_
    refine x_iload_n dX11_feed_22 rfl 2 rfl ?_
    obtain ⟨c22, H⟩ := ko_o H
    obtain ⟨v6, h7, hc8, H⟩ := bd_o H
    refine x_callVv (As := [.int x2]) (q := (RX11, TX11, 17)) dX11_feed_23 mi_X11_put lk_X11_111 im_X11_put se_X11_put rfl c22 rfl rfl (Nat.le_of_ble_eq_true rfl) (t_X11_put (by omega) hc8) ?_
    refine x_aload_n dX11_feed_26 rfl 0 rfl ?_
    refine x_iload_n dX11_feed_27 rfl 3 rfl ?_
    obtain ⟨c21, H⟩ := ko_o H
    obtain ⟨v9, h10, hc11, H⟩ := bd_o H
    refine x_callVv (As := [.int x3]) (q := (RX11, TX11, 17)) dX11_feed_28 mi_X11_put lk_X11_111 im_X11_put se_X11_put rfl c21 rfl rfl (Nat.le_of_ble_eq_true rfl) (t_X11_put (by omega) hc11) ?_
    refine x_aload_n dX11_feed_31 rfl 0 rfl ?_
    refine x_iload dX11_feed_32 4 rfl ?_
    obtain ⟨c20, H⟩ := ko_o H
    obtain ⟨v12, h13, hc14, H⟩ := bd_o H
    refine x_callVv (As := [.int x4]) (q := (RX11, TX11, 17)) dX11_feed_34 mi_X11_put lk_X11_111 im_X11_put se_X11_put rfl c20 rfl rfl (Nat.le_of_ble_eq_true rfl) (t_X11_put (by omega) hc14) ?_
    refine x_aload_n dX11_feed_37 rfl 0 rfl ?_
    refine x_iload dX11_feed_38 5 rfl ?_
    obtain ⟨c19, H⟩ := ko_o H
    obtain ⟨v15, h16, hc17, H⟩ := bd_o H
    refine x_callVv (As := [.int x5]) (q := (RX11, TX11, 17)) dX11_feed_40 mi_X11_put lk_X11_111 im_X11_put se_X11_put rfl c19 rfl rfl (Nat.le_of_ble_eq_true rfl) (t_X11_put (by omega) hc17) ?_
    refine x_aload_n dX11_feed_43 rfl 0 rfl ?_
    obtain ⟨c18, H⟩ := ko_o H
    refine x_getI fr_X11_93 dX11_feed_44 c18 rfl ?_
    obtain ⟨rfl, rfl⟩ := so_1 H
    exact x_iret dX11_feed_47 rfl rfl
  · replace H := ite_m H c2
    refine x_aload_n dX11_feed_10 rfl 0 rfl ?_
    refine x_iconst (v := 0) dX11_feed_11 (by decide) ?_
    obtain ⟨v23, h24, hc25, H⟩ := bd_o H
    refine x_callVi (As := [.int 0]) (q := (RX11, TX11, 17)) dX11_feed_12 mi_X11_refuse lk_X11_107 im_X11_refuse se_X11_refuse rfl c1 rfl rfl (Nat.le_of_ble_eq_true rfl) (t_X11_refuse (by omega) hc25) ?_
    obtain ⟨rfl, rfl⟩ := so_1 H
    exact x_iret dX11_feed_15 rfl rfl
def f_X11_deny_14 (s0 : Int32) (h : aH) : Option (Int32 × aH) :=
  chk (narrow .boolean (.int s0) = .int s0) <|
  some (s0, h)
set_option maxRecDepth 100000 in
set_option maxHeartbeats 4000000 in
theorem t_X11_deny_14 {Γ : gS} {d : Nat} (hd : 1 ≤ d) {s0 : Int32} {h : aH} {r : Int32} {h' : aH} (H : f_X11_deny_14 s0 h = some (r, h')) : Ex Γ gX11_deny d 14 [] [.int s0] h (some (.int r)) h' := by
  unfold f_X11_deny_14 at H
  obtain ⟨d, rfl⟩ : ∃ e, d = e + 1 := ⟨d - 1, by omega⟩
  obtain ⟨c1, H⟩ := chk_o H
  obtain ⟨rfl, rfl⟩ := so_1 H
  exact x_iret dX11_deny_14 rfl c1
def f_X11_deny (x0 : Nat) (x1 : Int32) (h : aH) : Option (Int32 × aH) :=
  ko h x0 10 <|
  bd (f_X11_refuse x0 x1 h) fun v2 h3 =>
  if v2 = (-1) then
    f_X11_deny_14 0 h3
  else
    f_X11_deny_14 1 h3
set_option maxRecDepth 100000 in
set_option maxHeartbeats 4000000 in
theorem t_X11_deny {Γ : gS} {d : Nat} (hd : 1 ≤ d) {x0 : Nat} {x1 : Int32} {h : aH} {r : Int32} {h' : aH} (H : f_X11_deny x0 x1 h = some (r, h')) : Mx Γ gX11_deny d [.ref x0, .int x1] h (some (.int r)) h' := by
  refine Mx.of (by decide +kernel) (Nat.le_of_ble_eq_true rfl) ?_
  unfold f_X11_deny at H
  show Ex Γ gX11_deny d 0 [(0, .ref x0), (1, .int x1)] [] h (some (.int r)) h'
  obtain ⟨d, rfl⟩ : ∃ e, d = e + 1 := ⟨d - 1, by omega⟩
  refine x_aload_n dX11_deny_0 rfl 0 rfl ?_
  refine x_iload_n dX11_deny_1 rfl 1 rfl ?_
  obtain ⟨c6, H⟩ := ko_o H
  obtain ⟨v2, h3, hc4, H⟩ := bd_o H
  refine x_callVi (As := [.int x1]) (q := (RX11, TX11, 17)) dX11_deny_2 mi_X11_refuse lk_X11_107 im_X11_refuse se_X11_refuse rfl c6 rfl rfl (Nat.le_of_ble_eq_true rfl) (t_X11_refuse (by omega) hc4) ?_
  refine x_iconst (v := (-1)) dX11_deny_5 (by decide) ?_
  refine x_icmp_eq (tgt := 13) dX11_deny_6 (by decide) (fun c5 => ?_) (fun c5 => ?_)
  · replace H := ite_p H c5
    refine x_iconst (v := 0) dX11_deny_13 (by decide) ?_
    refine Ex.sub [] rfl ?_
    exact t_X11_deny_14 hd H
  · replace H := ite_m H c5
    refine x_iconst (v := 1) dX11_deny_9 (by decide) ?_
    refine x_goto (tgt := 14) dX11_deny_10 (by decide) ?_
    refine Ex.sub [] rfl ?_
    exact t_X11_deny_14 hd H
def f_X11_end_12 (x0 : Nat) (h : aH) : Option (Int32 × aH) :=
  ko h x0 10 <|
  bd (f_X11_deny x0 0 h) fun v1 h2 =>
  chk (narrow .boolean (.int v1) = .int v1) <|
  some (v1, h2)
set_option maxRecDepth 100000 in
set_option maxHeartbeats 4000000 in
theorem t_X11_end_12 {Γ : gS} {d : Nat} (hd : 2 ≤ d) {x0 : Nat} {h : aH} {r : Int32} {h' : aH} (H : f_X11_end_12 x0 h = some (r, h')) : Ex Γ gX11_end d 12 [(0, .ref x0)] [] h (some (.int r)) h' := by
  unfold f_X11_end_12 at H
  obtain ⟨d, rfl⟩ : ∃ e, d = e + 1 := ⟨d - 1, by omega⟩
  refine x_aload_n dX11_end_12 rfl 0 rfl ?_
  refine x_iconst (v := 0) dX11_end_13 (by decide) ?_
  obtain ⟨c5, H⟩ := ko_o H
  obtain ⟨v1, h2, hc3, H⟩ := bd_o H
  refine x_callVi (As := [.int 0]) (q := (RX11, TX11, 17)) dX11_end_14 mi_X11_deny lk_X11_115 im_X11_deny se_X11_deny rfl c5 rfl rfl (Nat.le_of_ble_eq_true rfl) (t_X11_deny (by omega) hc3) ?_
  obtain ⟨c4, H⟩ := chk_o H
  obtain ⟨rfl, rfl⟩ := so_1 H
  exact x_iret dX11_end_17 rfl c4
def f_X11_end (x0 : Nat) (x1 : Int32) (h : aH) : Option (Int32 × aH) :=
  if x1 < 0 then
    f_X11_end_12 x0 h
  else
    ko h x0 10 <|
    if x1 ≤ (hI h x0 13) then
      some (1, sI h x0 13 x1)
    else
      f_X11_end_12 x0 h
set_option maxRecDepth 100000 in
set_option maxHeartbeats 4000000 in
theorem t_X11_end {Γ : gS} {d : Nat} (hd : 2 ≤ d) {x0 : Nat} {x1 : Int32} {h : aH} {r : Int32} {h' : aH} (H : f_X11_end x0 x1 h = some (r, h')) : Mx Γ gX11_end d [.ref x0, .int x1] h (some (.int r)) h' := by
  refine Mx.of (by decide +kernel) (Nat.le_of_ble_eq_true rfl) ?_
  unfold f_X11_end at H
  show Ex Γ gX11_end d 0 [(0, .ref x0), (1, .int x1)] [] h (some (.int r)) h'
  obtain ⟨d, rfl⟩ : ∃ e, d = e + 1 := ⟨d - 1, by omega⟩
  refine x_iload_n dX11_end_0 rfl 1 rfl ?_
  refine x_if_lt (tgt := 12) dX11_end_1 (by decide) (fun c6 => ?_) (fun c6 => ?_)
  · replace H := ite_p H c6
    refine Ex.sub [0] rfl ?_
    exact t_X11_end_12 hd H
  · replace H := ite_m H c6
    refine x_iload_n dX11_end_4 rfl 1 rfl ?_
    refine x_aload_n dX11_end_5 rfl 0 rfl ?_
    obtain ⟨c7, H⟩ := ko_o H
    refine x_getI fr_X11_93 dX11_end_6 c7 rfl ?_
    refine x_icmp_le (tgt := 18) dX11_end_9 (by decide) (fun c8 => ?_) (fun c8 => ?_)
    · replace H := ite_p H c8
      refine x_aload_n dX11_end_18 rfl 0 rfl ?_
      refine x_iload_n dX11_end_19 rfl 1 rfl ?_
      refine x_putI fl_X11_93 dX11_end_20 c7 (fun e => by cases e) rfl ?_
      refine x_iconst (v := 1) dX11_end_23 (by decide) ?_
      obtain ⟨rfl, rfl⟩ := so_1 H
      exact x_iret dX11_end_24 rfl (by decide)
    · replace H := ite_m H c8
      refine Ex.sub [0] rfl ?_
      exact t_X11_end_12 hd H
def f_X11_beginAnew (x0 : Nat) (h : aH) : Option (Unit × aH) :=
  ko h x0 10 <|
  kr (hR h x0 2) fun a2 =>
  ko h a2 9 <|
  bd (f_X9_clear a2 (sI h x0 12 1)) fun _ h5 =>
  ko h5 x0 10 <|
  kr (hR h5 x0 2) fun a8 =>
  ko h5 a8 9 <|
  kr (hR h5 a8 0) fun a11 =>
  ka h5 a11 (.object RX6) fun n14 =>
  chk (inb 15 n14 = true) <|
  kr (hR h5 a11 (15 : Int32).toNatClampNeg) fun a16 =>
  ko h5 a16 6 <|
  kr (hR h5 x0 9) fun a19 =>
  ko h5 a19 4 <|
  nm (hI (sI (sI h5 a16 1 1) a16 6 7) a19 2) fun (v22 : Int32) =>
  bd (f_X6_carry a16 0 4096 v22 (sI (sI h5 a16 1 1) a16 6 7)) fun _ h24 =>
  ko h24 x0 10 <|
  kr (hR h24 x0 4) fun a27 =>
  ko h24 a27 2 <|
  bd (f_X2_clear a27 h24) fun _ h30 =>
  ko h30 x0 10 <|
  kr (hR h30 x0 7) fun a33 =>
  ko h30 a33 8 <|
  bd (f_X8_clear a33 h30) fun _ h36 =>
  some ((), h36)
set_option maxRecDepth 100000 in
set_option maxHeartbeats 4000000 in
theorem t_X11_beginAnew {Γ : gS} {d : Nat} (hd : 4 ≤ d) {x0 : Nat} {h : aH} {r : Unit} {h' : aH} (H : f_X11_beginAnew x0 h = some (r, h')) : Mx Γ gX11_beginAnew d [.ref x0] h none h' := by
  refine Mx.of (by decide +kernel) (Nat.le_of_ble_eq_true rfl) ?_
  unfold f_X11_beginAnew at H
  show Ex Γ gX11_beginAnew d 0 [(0, .ref x0)] [] h none h'
  obtain ⟨d, rfl⟩ : ∃ e, d = e + 1 := ⟨d - 1, by omega⟩
  refine x_aload_n dX11_beginAnew_0 rfl 0 rfl ?_
  refine x_iconst (v := 1) dX11_beginAnew_1 (by decide) ?_
  obtain ⟨c1, H⟩ := ko_o H
  refine x_putZ fl_X11_89 dX11_beginAnew_2 c1 (fun e => by cases e) rfl (by decide) ?_
  refine x_aload_n dX11_beginAnew_5 rfl 0 rfl ?_
  obtain ⟨a2, c3, H⟩ := kr_o H
  refine x_getR fr_X11_20 dX11_beginAnew_6 c1 rfl c3 ?_
  obtain ⟨c40, H⟩ := ko_o H
  obtain ⟨v4, h5, hc6, H⟩ := bd_o H
  refine x_callVv (As := []) (q := (RX9, TX9, 8)) dX11_beginAnew_9 mi_X9_clear lk_X11_140 im_X9_clear se_X9_clear rfl c40 rfl rfl (Nat.le_of_ble_eq_true rfl) (t_X9_clear (by omega) hc6) ?_
  refine x_aload_n dX11_beginAnew_12 rfl 0 rfl ?_
  obtain ⟨c7, H⟩ := ko_o H
  obtain ⟨a8, c9, H⟩ := kr_o H
  refine x_getR fr_X11_20 dX11_beginAnew_13 c7 rfl c9 ?_
  obtain ⟨c10, H⟩ := ko_o H
  obtain ⟨a11, c12, H⟩ := kr_o H
  refine x_getR fr_X11_36 dX11_beginAnew_16 c10 rfl c12 ?_
  refine x_bipush (v := 15) dX11_beginAnew_19 (by decide) ?_
  obtain ⟨n14, c13, H⟩ := ka_o H
  obtain ⟨c15, H⟩ := chk_o H
  obtain ⟨a16, c17, H⟩ := kr_o H
  refine x_aald dX11_beginAnew_21 c13 (by decide) (inb_in.mp c15) c17 ?_
  refine x_astore_n (lv' := [(1, .ref a16), (0, .ref x0)]) dX11_beginAnew_22 rfl (by decide) rfl rfl ?_
  refine x_aload_n dX11_beginAnew_23 rfl 0 rfl ?_
  refine x_iconst (v := 1) dX11_beginAnew_24 (by decide) ?_
  obtain ⟨c18, H⟩ := ko_o H
  refine x_putZ fl_X11_143 dX11_beginAnew_25 c18 (fun e => by cases e) rfl (by decide) ?_
  refine x_aload_n dX11_beginAnew_28 rfl 0 rfl ?_
  refine x_bipush (v := 7) dX11_beginAnew_29 (by decide) ?_
  refine x_putI fl_X11_148 dX11_beginAnew_31 c18 (fun e => by cases e) rfl ?_
  refine x_aload_n dX11_beginAnew_34 rfl 0 rfl ?_
  refine x_iconst (v := 0) dX11_beginAnew_35 (by decide) ?_
  refine x_sipush (v := 4096) dX11_beginAnew_36 (by decide) ?_
  refine x_aload_n dX11_beginAnew_39 rfl 1 rfl ?_
  obtain ⟨a19, c20, H⟩ := kr_o H
  refine x_getR fr_X11_73 dX11_beginAnew_40 c7 rfl c20 ?_
  obtain ⟨c21, H⟩ := ko_o H
  obtain ⟨v22, ev22, H⟩ := nm_o H
  refine x_getIe fr_X11_151 dX11_beginAnew_43 c21 rfl ev22 ?_
  obtain ⟨v23, h24, hc25, H⟩ := bd_o H
  refine x_callVv (As := [.int 0, .int 4096, .int v22]) (q := (RX6, TX6, 8)) dX11_beginAnew_46 mi_X6_carry lk_X11_154 im_X6_carry se_X6_carry rfl c18 rfl rfl (Nat.le_of_ble_eq_true rfl) (t_X6_carry (by omega) hc25) ?_
  refine x_aload_n dX11_beginAnew_49 rfl 1 rfl ?_
  obtain ⟨c26, H⟩ := ko_o H
  obtain ⟨a27, c28, H⟩ := kr_o H
  refine x_getR fr_X11_30 dX11_beginAnew_50 c26 rfl c28 ?_
  obtain ⟨c39, H⟩ := ko_o H
  obtain ⟨v29, h30, hc31, H⟩ := bd_o H
  refine x_callVv (As := []) (q := (RX2, TX2, 3)) dX11_beginAnew_53 mi_X2_clear lk_X11_158 im_X2_clear se_X2_clear rfl c39 rfl rfl (Nat.le_of_ble_eq_true rfl) (t_X2_clear (by omega) hc31) ?_
  refine x_aload_n dX11_beginAnew_56 rfl 1 rfl ?_
  obtain ⟨c32, H⟩ := ko_o H
  obtain ⟨a33, c34, H⟩ := kr_o H
  refine x_getR fr_X11_59 dX11_beginAnew_57 c32 rfl c34 ?_
  obtain ⟨c38, H⟩ := ko_o H
  obtain ⟨v35, h36, hc37, H⟩ := bd_o H
  refine x_callVv (As := []) (q := (RX8, TX8, 7)) dX11_beginAnew_60 mi_X8_clear lk_X11_159 im_X8_clear se_X8_clear rfl c38 rfl rfl (Nat.le_of_ble_eq_true rfl) (t_X8_clear (by omega) hc37) ?_
  obtain ⟨-, rfl⟩ := so_1 H
  exact x_vret dX11_beginAnew_63 rfl
def f_X11_keepFault (x0 : Nat) (h : aH) : Option (Unit × aH) :=
  ko h x0 10 <|
  kr (hR h x0 11) fun a2 =>
  ko h a2 5 <|
  nm (hI (sI h x0 14 (hI h a2 0)) a2 1) fun (v5 : Int32) =>
  some ((), sI (sI h x0 14 (hI h a2 0)) x0 15 v5)
set_option maxRecDepth 100000 in
set_option maxHeartbeats 4000000 in
theorem t_X11_keepFault {Γ : gS} {d : Nat} (hd : 0 ≤ d) {x0 : Nat} {h : aH} {r : Unit} {h' : aH} (H : f_X11_keepFault x0 h = some (r, h')) : Mx Γ gX11_keepFault d [.ref x0] h none h' := by
  refine Mx.of (by decide +kernel) (Nat.le_of_ble_eq_true rfl) ?_
  unfold f_X11_keepFault at H
  show Ex Γ gX11_keepFault d 0 [(0, .ref x0)] [] h none h'
  refine x_aload_n dX11_keepFault_0 rfl 0 rfl ?_
  refine x_aload_n dX11_keepFault_1 rfl 0 rfl ?_
  obtain ⟨c1, H⟩ := ko_o H
  obtain ⟨a2, c3, H⟩ := kr_o H
  refine x_getR fr_X11_85 dX11_keepFault_2 c1 rfl c3 ?_
  obtain ⟨c4, H⟩ := ko_o H
  refine x_getI fr_X11_136 dX11_keepFault_5 c4 rfl ?_
  refine x_putI fl_X11_97 dX11_keepFault_8 c1 (fun e => by cases e) rfl ?_
  refine x_aload_n dX11_keepFault_11 rfl 0 rfl ?_
  refine x_aload_n dX11_keepFault_12 rfl 0 rfl ?_
  refine x_getR fr_X11_85 dX11_keepFault_13 c1 rfl c3 ?_
  obtain ⟨v5, ev5, H⟩ := nm_o H
  refine x_getIe fr_X11_137 dX11_keepFault_16 c4 rfl ev5 ?_
  refine x_putI fl_X11_100 dX11_keepFault_19 c1 (fun e => by cases e) rfl ?_
  obtain ⟨-, rfl⟩ := so_1 H
  exact x_vret dX11_keepFault_22 rfl
def f_X11_takeTape (x0 : Nat) (h : aH) : Option (Int32 × aH) :=
  ko h x0 10 <|
  nm (hI h x0 13) fun (v2 : Int32) =>
  some (v2, sI h x0 13 0)
set_option maxRecDepth 100000 in
set_option maxHeartbeats 4000000 in
theorem t_X11_takeTape {Γ : gS} {d : Nat} (hd : 0 ≤ d) {x0 : Nat} {h : aH} {r : Int32} {h' : aH} (H : f_X11_takeTape x0 h = some (r, h')) : Mx Γ gX11_takeTape d [.ref x0] h (some (.int r)) h' := by
  refine Mx.of (by decide +kernel) (Nat.le_of_ble_eq_true rfl) ?_
  unfold f_X11_takeTape at H
  show Ex Γ gX11_takeTape d 0 [(0, .ref x0)] [] h (some (.int r)) h'
  refine x_aload_n dX11_takeTape_0 rfl 0 rfl ?_
  obtain ⟨c1, H⟩ := ko_o H
  refine x_getI fr_X11_93 dX11_takeTape_1 c1 rfl ?_
  obtain ⟨v2, ev2, H⟩ := nm_o H
  refine x_istore_n (lv' := [(1, .int v2), (0, .ref x0)]) dX11_takeTape_4 rfl (by decide) ev2 rfl ?_
  refine x_aload_n dX11_takeTape_5 rfl 1 rfl ?_
  refine x_iconst (v := 0) dX11_takeTape_6 (by decide) ?_
  refine x_putI fl_X11_93 dX11_takeTape_7 c1 (fun e => by cases e) rfl ?_
  refine x_iload_n dX11_takeTape_10 rfl 0 rfl ?_
  obtain ⟨rfl, rfl⟩ := so_1 H
  exact x_iret dX11_takeTape_11 rfl rfl
def f_X11_machine (x0 : Nat) (h : aH) : Option (Int32 × aH) :=
  ko h x0 10 <|
  kr (hR h x0 11) fun a2 =>
  kr (hR h x0 0) fun a4 =>
  bd (f_X11_takeTape x0 h) fun v6 h7 =>
  ko h7 x0 10 <|
  kr (hR h7 x0 10) fun a10 =>
  ko h7 a2 5 <|
  bd (f_X5_readMachine a2 a4 v6 a10 h7) fun v12 h13 =>
  ko h13 x0 10 <|
  bd (f_X11_keepFault x0 h13) fun _ h16 =>
  if v12 = 0 then
    ko h16 x0 10 <|
    bd (f_X11_refuse x0 1 h16) fun v31 h32 =>
    some (v31, h32)
  else
    ko h16 x0 10 <|
    kr (hR h16 x0 9) fun a20 =>
    kr (hR h16 x0 10) fun a22 =>
    bd (f_X11_beginAnew x0 (sR (sR h16 x0 9 (some a22)) x0 10 (some a20))) fun _ h25 =>
    ko h25 x0 10 <|
    kr (hR h25 x0 9) fun a28 =>
    ko h25 a28 4 <|
    some (hI h25 a28 0, h25)
set_option maxRecDepth 100000 in
set_option maxHeartbeats 4000000 in
theorem t_X11_machine {Γ : gS} {d : Nat} (hd : 112 ≤ d) {x0 : Nat} {h : aH} {r : Int32} {h' : aH} (H : f_X11_machine x0 h = some (r, h')) : Mx Γ gX11_machine d [.ref x0] h (some (.int r)) h' := by
  refine Mx.of (by decide +kernel) (Nat.le_of_ble_eq_true rfl) ?_
  unfold f_X11_machine at H
  show Ex Γ gX11_machine d 0 [(0, .ref x0)] [] h (some (.int r)) h'
  obtain ⟨d, rfl⟩ : ∃ e, d = e + 1 := ⟨d - 1, by omega⟩
  refine x_aload_n dX11_machine_0 rfl 0 rfl ?_
  obtain ⟨c1, H⟩ := ko_o H
  obtain ⟨a2, c3, H⟩ := kr_o H
  refine x_getR fr_X11_85 dX11_machine_1 c1 rfl c3 ?_
  refine x_aload_n dX11_machine_4 rfl 0 rfl ?_
  obtain ⟨a4, c5, H⟩ := kr_o H
  refine x_getR fr_X11_9 dX11_machine_5 c1 rfl c5 ?_
  refine x_aload_n dX11_machine_8 rfl 0 rfl ?_
  obtain ⟨v6, h7, hc8, H⟩ := bd_o H
  refine x_callVi (As := []) (q := (RX11, TX11, 17)) dX11_machine_9 mi_X11_takeTape lk_X11_119 im_X11_takeTape se_X11_takeTape rfl c1 rfl rfl (Nat.le_of_ble_eq_true rfl) (t_X11_takeTape (by omega) hc8) ?_
  refine x_aload_n dX11_machine_12 rfl 0 rfl ?_
  obtain ⟨c9, H⟩ := ko_o H
  obtain ⟨a10, c11, H⟩ := kr_o H
  refine x_getR fr_X11_77 dX11_machine_13 c9 rfl c11 ?_
  obtain ⟨c36, H⟩ := ko_o H
  obtain ⟨v12, h13, hc14, H⟩ := bd_o H
  refine x_callVi (As := [.ref a4, .int v6, .ref a10]) (q := (RX5, TX5, 5)) dX11_machine_16 mi_X5_readMachine lk_X11_123 im_X5_readMachine se_X5_readMachine rfl c36 rfl rfl (Nat.le_of_ble_eq_true rfl) (t_X5_readMachine (by omega) hc14) ?_
  refine x_istore_n (lv' := [(1, .int v12), (0, .ref x0)]) dX11_machine_19 rfl (by decide) rfl rfl ?_
  refine x_aload_n dX11_machine_20 rfl 1 rfl ?_
  obtain ⟨c35, H⟩ := ko_o H
  obtain ⟨v15, h16, hc17, H⟩ := bd_o H
  refine x_callVv (As := []) (q := (RX11, TX11, 17)) dX11_machine_21 mi_X11_keepFault lk_X11_127 im_X11_keepFault se_X11_keepFault rfl c35 rfl rfl (Nat.le_of_ble_eq_true rfl) (t_X11_keepFault (by omega) hc17) ?_
  refine x_iload_n dX11_machine_24 rfl 0 rfl ?_
  refine x_if_ne (tgt := 34) dX11_machine_25 (by decide) (fun c18 => ?_) (fun c18 => ?_)
  · replace H := ite_m H c18
    refine x_aload_n dX11_machine_34 rfl 1 rfl ?_
    obtain ⟨c19, H⟩ := ko_o H
    obtain ⟨a20, c21, H⟩ := kr_o H
    refine x_getR fr_X11_73 dX11_machine_35 c19 rfl c21 ?_
    refine x_astore_n (lv' := [(2, .ref a20), (1, .int v12), (0, .ref x0)]) dX11_machine_38 rfl (by decide) rfl rfl ?_
    refine x_aload_n dX11_machine_39 rfl 2 rfl ?_
    refine x_aload_n dX11_machine_40 rfl 2 rfl ?_
    obtain ⟨a22, c23, H⟩ := kr_o H
    refine x_getR fr_X11_77 dX11_machine_41 c19 rfl c23 ?_
    refine x_putR fl_X11_73 dX11_machine_44 c19 (fun e => by cases e) rfl ?_
    refine x_aload_n dX11_machine_47 rfl 2 rfl ?_
    refine x_aload_n dX11_machine_48 rfl 0 rfl ?_
    refine x_putR fl_X11_77 dX11_machine_49 c19 (fun e => by cases e) rfl ?_
    refine x_aload_n dX11_machine_52 rfl 2 rfl ?_
    obtain ⟨v24, h25, hc26, H⟩ := bd_o H
    refine x_callVv (As := []) (q := (RX11, TX11, 17)) dX11_machine_53 mi_X11_beginAnew lk_X11_130 im_X11_beginAnew se_X11_beginAnew rfl c19 rfl rfl (Nat.le_of_ble_eq_true rfl) (t_X11_beginAnew (by omega) hc26) ?_
    refine x_aload_n dX11_machine_56 rfl 2 rfl ?_
    obtain ⟨c27, H⟩ := ko_o H
    obtain ⟨a28, c29, H⟩ := kr_o H
    refine x_getR fr_X11_73 dX11_machine_57 c27 rfl c29 ?_
    obtain ⟨c30, H⟩ := ko_o H
    refine x_getI fr_X11_133 dX11_machine_60 c30 rfl ?_
    obtain ⟨rfl, rfl⟩ := so_1 H
    exact x_iret dX11_machine_63 rfl rfl
  · replace H := ite_p H c18
    refine x_aload_n dX11_machine_28 rfl 1 rfl ?_
    refine x_iconst (v := 1) dX11_machine_29 (by decide) ?_
    obtain ⟨c34, H⟩ := ko_o H
    obtain ⟨v31, h32, hc33, H⟩ := bd_o H
    refine x_callVi (As := [.int 1]) (q := (RX11, TX11, 17)) dX11_machine_30 mi_X11_refuse lk_X11_107 im_X11_refuse se_X11_refuse rfl c34 rfl rfl (Nat.le_of_ble_eq_true rfl) (t_X11_refuse (by omega) hc33) ?_
    obtain ⟨rfl, rfl⟩ := so_1 H
    exact x_iret dX11_machine_33 rfl rfl
def f_X11_fault (x0 : Nat) (x1 : Int32) (h : aH) : Option (Int32 × aH) :=
  if x1 = 0 then
    ko h x0 10 <|
    some (hI h x0 14, h)
  else
  if x1 = 1 then
    ko h x0 10 <|
    some (hI h x0 15, h)
  else
  some ((-1), h)
set_option maxRecDepth 100000 in
set_option maxHeartbeats 4000000 in
theorem t_X11_fault {Γ : gS} {d : Nat} (hd : 0 ≤ d) {x0 : Nat} {x1 : Int32} {h : aH} {r : Int32} {h' : aH} (H : f_X11_fault x0 x1 h = some (r, h')) : Mx Γ gX11_fault d [.ref x0, .int x1] h (some (.int r)) h' := by
  refine Mx.of (by decide +kernel) (Nat.le_of_ble_eq_true rfl) ?_
  unfold f_X11_fault at H
  show Ex Γ gX11_fault d 0 [(0, .ref x0), (1, .int x1)] [] h (some (.int r)) h'
  refine x_iload_n dX11_fault_0 rfl 1 rfl ?_
  by_cases c1 : x1 = 0
  · replace H := ite_p H c1
    refine x_lookup (tgt := 28) (off := 27) dX11_fault_1 (by decide) (by rw [c1]; rfl) (by decide) ?_
    refine x_aload_n dX11_fault_28 rfl 0 rfl ?_
    obtain ⟨c2, H⟩ := ko_o H
    refine x_getI fr_X11_97 dX11_fault_29 c2 rfl ?_
    obtain ⟨rfl, rfl⟩ := so_1 H
    exact x_iret dX11_fault_32 rfl rfl
  replace H := ite_m H c1
  by_cases c3 : x1 = 1
  · replace H := ite_p H c3
    refine x_lookup (tgt := 33) (off := 32) dX11_fault_1 (by decide) (by rw [c3]; rfl) (by decide) ?_
    refine x_aload_n dX11_fault_33 rfl 0 rfl ?_
    obtain ⟨c4, H⟩ := ko_o H
    refine x_getI fr_X11_100 dX11_fault_34 c4 rfl ?_
    obtain ⟨rfl, rfl⟩ := so_1 H
    exact x_iret dX11_fault_37 rfl rfl
  replace H := ite_m H c3
  refine x_lookup (tgt := 38) (off := 37) dX11_fault_1 (by decide) (by show Op.lookupswitch.offset [(0, 27), (1, 32)] _ _ = _; rw [lv_osw c1 (by decide)]; rw [lv_osw c3 (by decide)]; rfl) (by decide) ?_
  refine x_iconst (v := (-1)) dX11_fault_38 (by decide) ?_
  obtain ⟨rfl, rfl⟩ := so_1 H
  exact x_iret dX11_fault_39 rfl rfl
def f_X11_has_10 (h : aH) : Option (Int32 × aH) :=
  some ((-1), h)
set_option maxRecDepth 100000 in
set_option maxHeartbeats 4000000 in
theorem t_X11_has_10 {Γ : gS} {d : Nat} (hd : 3 ≤ d) {h : aH} {r : Int32} {h' : aH} (H : f_X11_has_10 h = some (r, h')) : Ex Γ gX11_has d 10 [] [] h (some (.int r)) h' := by
  unfold f_X11_has_10 at H
  obtain ⟨d, rfl⟩ : ∃ e, d = e + 1 := ⟨d - 1, by omega⟩
  refine x_iconst (v := (-1)) dX11_has_10 (by decide) ?_
  obtain ⟨rfl, rfl⟩ := so_1 H
  exact x_iret dX11_has_11 rfl rfl
def f_X11_has_170 (x0 : Nat) (h : aH) : Option (Int32 × aH) :=
  ko h x0 10 <|
  kr (hR h x0 9) fun a2 =>
  ko h a2 4 <|
  some (hI h a2 3, h)
set_option maxRecDepth 100000 in
set_option maxHeartbeats 4000000 in
theorem t_X11_has_170 {Γ : gS} {d : Nat} (hd : 3 ≤ d) {x0 : Nat} {h : aH} {r : Int32} {h' : aH} (H : f_X11_has_170 x0 h = some (r, h')) : Ex Γ gX11_has d 170 [(0, .ref x0)] [] h (some (.int r)) h' := by
  unfold f_X11_has_170 at H
  obtain ⟨d, rfl⟩ : ∃ e, d = e + 1 := ⟨d - 1, by omega⟩
  refine x_aload_n dX11_has_170 rfl 0 rfl ?_
  obtain ⟨c1, H⟩ := ko_o H
  obtain ⟨a2, c3, H⟩ := kr_o H
  refine x_getR fr_X11_73 dX11_has_171 c1 rfl c3 ?_
  obtain ⟨c4, H⟩ := ko_o H
  refine x_getI fr_X11_187 dX11_has_174 c4 rfl ?_
  obtain ⟨rfl, rfl⟩ := so_1 H
  exact x_iret dX11_has_177 rfl rfl
def f_X11_has (x0 : Nat) (x1 : Int32) (h : aH) : Option (Int32 × aH) :=
  if x1 < 0 then
    f_X11_has_10 h
  else
    if x1 ≤ 10 then
      ko h x0 10 <|
      if (hI h x0 12) = 0 then
        some (0, h)
      else
        if x1 < 0 then
          f_X11_has_170 x0 h
        else
        if 9 < x1 then
          f_X11_has_170 x0 h
        else
        if x1 = 0 then
          kr (hR h x0 9) fun a12 =>
          ko h a12 4 <|
          some (hI h a12 1, h)
        else
        if x1 = 1 then
          kr (hR h x0 9) fun a16 =>
          ko h a16 4 <|
          some (hI h a16 2, h)
        else
        if x1 = 2 then
          kr (hR h x0 2) fun a20 =>
          ko h a20 9 <|
          bd (f_X9_countValid a20 h) fun v22 h23 =>
          some (v22, h23)
        else
        if x1 = 3 then
          kr (hR h x0 2) fun a27 =>
          ko h a27 9 <|
          some (hI h a27 6, h)
        else
        if x1 = 4 then
          kr (hR h x0 2) fun a31 =>
          ko h a31 9 <|
          bd (f_X9_bytesInObjects a31 h) fun v33 h34 =>
          some (v33, h34)
        else
        if x1 = 5 then
          kr (hR h x0 2) fun a38 =>
          kr (hR h x0 9) fun a40 =>
          ko h a40 4 <|
          ko h a38 9 <|
          bd (f_X9_countHoles a38 (hI h a40 1) h) fun v43 h44 =>
          some (v43, h44)
        else
        if x1 = 6 then
          kr (hR h x0 2) fun a48 =>
          kr (hR h x0 9) fun a50 =>
          ko h a50 4 <|
          ko h a48 9 <|
          bd (f_X9_longestHole a48 (hI h a50 1) h) fun v53 h54 =>
          some (v53, h54)
        else
        if x1 = 7 then
          kr (hR h x0 2) fun a58 =>
          ko h a58 9 <|
          some (hI h a58 7, h)
        else
        if x1 = 8 then
          kr (hR h x0 7) fun a62 =>
          ko h a62 8 <|
          some (hI h a62 0, h)
        else
        if x1 = 9 then
          kr (hR h x0 4) fun a66 =>
          ko h a66 2 <|
          some (hI h a66 0, h)
        else
        none
    else
      f_X11_has_10 h
set_option maxRecDepth 100000 in
set_option maxHeartbeats 4000000 in
theorem t_X11_has {Γ : gS} {d : Nat} (hd : 3 ≤ d) {x0 : Nat} {x1 : Int32} {h : aH} {r : Int32} {h' : aH} (H : f_X11_has x0 x1 h = some (r, h')) : Mx Γ gX11_has d [.ref x0, .int x1] h (some (.int r)) h' := by
  refine Mx.of (by decide +kernel) (Nat.le_of_ble_eq_true rfl) ?_
  unfold f_X11_has at H
  show Ex Γ gX11_has d 0 [(0, .ref x0), (1, .int x1)] [] h (some (.int r)) h'
  obtain ⟨d, rfl⟩ : ∃ e, d = e + 1 := ⟨d - 1, by omega⟩
  refine x_iload_n dX11_has_0 rfl 1 rfl ?_
  refine x_if_lt (tgt := 10) dX11_has_1 (by decide) (fun c5 => ?_) (fun c5 => ?_)
  · replace H := ite_p H c5
    refine Ex.sub [] rfl ?_
    exact t_X11_has_10 hd H
  · replace H := ite_m H c5
    refine x_iload_n dX11_has_4 rfl 1 rfl ?_
    refine x_bipush (v := 10) dX11_has_5 (by decide) ?_
    refine x_icmp_le (tgt := 12) dX11_has_7 (by decide) (fun c6 => ?_) (fun c6 => ?_)
    · replace H := ite_p H c6
      refine x_aload_n dX11_has_12 rfl 0 rfl ?_
      obtain ⟨c7, H⟩ := ko_o H
      refine x_getI fr_X11_89 dX11_has_13 c7 rfl ?_
      refine x_if_ne (tgt := 21) dX11_has_16 (by decide) (fun c8 => ?_) (fun c8 => ?_)
      · replace H := ite_m H c8
        refine x_iload_n dX11_has_21 rfl 1 rfl ?_
        by_cases c9 : x1 < 0
        · replace H := ite_p H c9
          refine x_tableOut (tgt := 170) dX11_has_22 (Or.inl (sw_lo c9 (by decide))) (by decide) ?_
          refine Ex.sub [0] rfl ?_
          exact t_X11_has_170 hd H
        replace H := ite_m H c9
        by_cases c10 : 9 < x1
        · replace H := ite_p H c10
          refine x_tableOut (tgt := 170) dX11_has_22 (Or.inr (sw_hi c10 (by decide))) (by decide) ?_
          refine Ex.sub [0] rfl ?_
          exact t_X11_has_170 hd H
        replace H := ite_m H c10
        by_cases c11 : x1 = 0
        · replace H := ite_p H c11
          refine x_tableIn (tgt := 76) dX11_has_22 (by rw [c11]; decide) (by rw [c11]; decide) (by rw [c11]; rfl) (by decide) ?_
          refine x_aload_n dX11_has_76 rfl 0 rfl ?_
          obtain ⟨a12, c13, H⟩ := kr_o H
          refine x_getR fr_X11_73 dX11_has_77 c7 rfl c13 ?_
          obtain ⟨c14, H⟩ := ko_o H
          refine x_getI fr_X11_160 dX11_has_80 c14 rfl ?_
          obtain ⟨rfl, rfl⟩ := so_1 H
          exact x_iret dX11_has_83 rfl rfl
        replace H := ite_m H c11
        by_cases c15 : x1 = 1
        · replace H := ite_p H c15
          refine x_tableIn (tgt := 84) dX11_has_22 (by rw [c15]; decide) (by rw [c15]; decide) (by rw [c15]; rfl) (by decide) ?_
          refine x_aload_n dX11_has_84 rfl 0 rfl ?_
          obtain ⟨a16, c17, H⟩ := kr_o H
          refine x_getR fr_X11_73 dX11_has_85 c7 rfl c17 ?_
          obtain ⟨c18, H⟩ := ko_o H
          refine x_getI fr_X11_151 dX11_has_88 c18 rfl ?_
          obtain ⟨rfl, rfl⟩ := so_1 H
          exact x_iret dX11_has_91 rfl rfl
        replace H := ite_m H c15
        by_cases c19 : x1 = 2
        · replace H := ite_p H c19
          refine x_tableIn (tgt := 92) dX11_has_22 (by rw [c19]; decide) (by rw [c19]; decide) (by rw [c19]; rfl) (by decide) ?_
          refine x_aload_n dX11_has_92 rfl 0 rfl ?_
          obtain ⟨a20, c21, H⟩ := kr_o H
          refine x_getR fr_X11_20 dX11_has_93 c7 rfl c21 ?_
          obtain ⟨c25, H⟩ := ko_o H
          obtain ⟨v22, h23, hc24, H⟩ := bd_o H
          refine x_callVi (As := []) (q := (RX9, TX9, 8)) dX11_has_96 mi_X9_countValid lk_X11_163 im_X9_countValid se_X9_countValid rfl c25 rfl rfl (Nat.le_of_ble_eq_true rfl) (t_X9_countValid (by omega) hc24) ?_
          obtain ⟨rfl, rfl⟩ := so_1 H
          exact x_iret dX11_has_99 rfl rfl
        replace H := ite_m H c19
        by_cases c26 : x1 = 3
        · replace H := ite_p H c26
          refine x_tableIn (tgt := 100) dX11_has_22 (by rw [c26]; decide) (by rw [c26]; decide) (by rw [c26]; rfl) (by decide) ?_
          refine x_aload_n dX11_has_100 rfl 0 rfl ?_
          obtain ⟨a27, c28, H⟩ := kr_o H
          refine x_getR fr_X11_20 dX11_has_101 c7 rfl c28 ?_
          obtain ⟨c29, H⟩ := ko_o H
          refine x_getI fr_X11_166 dX11_has_104 c29 rfl ?_
          obtain ⟨rfl, rfl⟩ := so_1 H
          exact x_iret dX11_has_107 rfl rfl
        replace H := ite_m H c26
        by_cases c30 : x1 = 4
        · replace H := ite_p H c30
          refine x_tableIn (tgt := 108) dX11_has_22 (by rw [c30]; decide) (by rw [c30]; decide) (by rw [c30]; rfl) (by decide) ?_
          refine x_aload_n dX11_has_108 rfl 0 rfl ?_
          obtain ⟨a31, c32, H⟩ := kr_o H
          refine x_getR fr_X11_20 dX11_has_109 c7 rfl c32 ?_
          obtain ⟨c36, H⟩ := ko_o H
          obtain ⟨v33, h34, hc35, H⟩ := bd_o H
          refine x_callVi (As := []) (q := (RX9, TX9, 8)) dX11_has_112 mi_X9_bytesInObjects lk_X11_169 im_X9_bytesInObjects se_X9_bytesInObjects rfl c36 rfl rfl (Nat.le_of_ble_eq_true rfl) (t_X9_bytesInObjects (by omega) hc35) ?_
          obtain ⟨rfl, rfl⟩ := so_1 H
          exact x_iret dX11_has_115 rfl rfl
        replace H := ite_m H c30
        by_cases c37 : x1 = 5
        · replace H := ite_p H c37
          refine x_tableIn (tgt := 116) dX11_has_22 (by rw [c37]; decide) (by rw [c37]; decide) (by rw [c37]; rfl) (by decide) ?_
          refine x_aload_n dX11_has_116 rfl 0 rfl ?_
          obtain ⟨a38, c39, H⟩ := kr_o H
          refine x_getR fr_X11_20 dX11_has_117 c7 rfl c39 ?_
          refine x_aload_n dX11_has_120 rfl 0 rfl ?_
          obtain ⟨a40, c41, H⟩ := kr_o H
          refine x_getR fr_X11_73 dX11_has_121 c7 rfl c41 ?_
          obtain ⟨c42, H⟩ := ko_o H
          refine x_getI fr_X11_160 dX11_has_124 c42 rfl ?_
          obtain ⟨c46, H⟩ := ko_o H
          obtain ⟨v43, h44, hc45, H⟩ := bd_o H
          refine x_callVi (As := [.int (hI h a40 1)]) (q := (RX9, TX9, 8)) dX11_has_127 mi_X9_countHoles lk_X11_172 im_X9_countHoles se_X9_countHoles rfl c46 rfl rfl (Nat.le_of_ble_eq_true rfl) (t_X9_countHoles (by omega) hc45) ?_
          obtain ⟨rfl, rfl⟩ := so_1 H
          exact x_iret dX11_has_130 rfl rfl
        replace H := ite_m H c37
        by_cases c47 : x1 = 6
        · replace H := ite_p H c47
          refine x_tableIn (tgt := 131) dX11_has_22 (by rw [c47]; decide) (by rw [c47]; decide) (by rw [c47]; rfl) (by decide) ?_
          refine x_aload_n dX11_has_131 rfl 0 rfl ?_
          obtain ⟨a48, c49, H⟩ := kr_o H
          refine x_getR fr_X11_20 dX11_has_132 c7 rfl c49 ?_
          refine x_aload_n dX11_has_135 rfl 0 rfl ?_
          obtain ⟨a50, c51, H⟩ := kr_o H
          refine x_getR fr_X11_73 dX11_has_136 c7 rfl c51 ?_
          obtain ⟨c52, H⟩ := ko_o H
          refine x_getI fr_X11_160 dX11_has_139 c52 rfl ?_
          obtain ⟨c56, H⟩ := ko_o H
          obtain ⟨v53, h54, hc55, H⟩ := bd_o H
          refine x_callVi (As := [.int (hI h a50 1)]) (q := (RX9, TX9, 8)) dX11_has_142 mi_X9_longestHole lk_X11_175 im_X9_longestHole se_X9_longestHole rfl c56 rfl rfl (Nat.le_of_ble_eq_true rfl) (t_X9_longestHole (by omega) hc55) ?_
          obtain ⟨rfl, rfl⟩ := so_1 H
          exact x_iret dX11_has_145 rfl rfl
        replace H := ite_m H c47
        by_cases c57 : x1 = 7
        · replace H := ite_p H c57
          refine x_tableIn (tgt := 146) dX11_has_22 (by rw [c57]; decide) (by rw [c57]; decide) (by rw [c57]; rfl) (by decide) ?_
          refine x_aload_n dX11_has_146 rfl 0 rfl ?_
          obtain ⟨a58, c59, H⟩ := kr_o H
          refine x_getR fr_X11_20 dX11_has_147 c7 rfl c59 ?_
          obtain ⟨c60, H⟩ := ko_o H
          refine x_getI fr_X11_178 dX11_has_150 c60 rfl ?_
          obtain ⟨rfl, rfl⟩ := so_1 H
          exact x_iret dX11_has_153 rfl rfl
        replace H := ite_m H c57
        by_cases c61 : x1 = 8
        · replace H := ite_p H c61
          refine x_tableIn (tgt := 154) dX11_has_22 (by rw [c61]; decide) (by rw [c61]; decide) (by rw [c61]; rfl) (by decide) ?_
          refine x_aload_n dX11_has_154 rfl 0 rfl ?_
          obtain ⟨a62, c63, H⟩ := kr_o H
          refine x_getR fr_X11_59 dX11_has_155 c7 rfl c63 ?_
          obtain ⟨c64, H⟩ := ko_o H
          refine x_getI fr_X11_181 dX11_has_158 c64 rfl ?_
          obtain ⟨rfl, rfl⟩ := so_1 H
          exact x_iret dX11_has_161 rfl rfl
        replace H := ite_m H c61
        by_cases c65 : x1 = 9
        · replace H := ite_p H c65
          refine x_tableIn (tgt := 162) dX11_has_22 (by rw [c65]; decide) (by rw [c65]; decide) (by rw [c65]; rfl) (by decide) ?_
          refine x_aload_n dX11_has_162 rfl 0 rfl ?_
          obtain ⟨a66, c67, H⟩ := kr_o H
          refine x_getR fr_X11_30 dX11_has_163 c7 rfl c67 ?_
          obtain ⟨c68, H⟩ := ko_o H
          refine x_getI fr_X11_184 dX11_has_166 c68 rfl ?_
          obtain ⟨rfl, rfl⟩ := so_1 H
          exact x_iret dX11_has_169 rfl rfl
        replace H := ite_m H c65
        cases H
      · replace H := ite_p H c8
        refine x_iconst (v := 0) dX11_has_19 (by decide) ?_
        obtain ⟨rfl, rfl⟩ := so_1 H
        exact x_iret dX11_has_20 rfl rfl
    · replace H := ite_m H c6
      refine Ex.sub [] rfl ?_
      exact t_X11_has_10 hd H
def f_X11_isShelf_27 (s0 : Int32) (h : aH) : Option (Int32 × aH) :=
  chk (narrow .boolean (.int s0) = .int s0) <|
  some (s0, h)
set_option maxRecDepth 100000 in
set_option maxHeartbeats 4000000 in
theorem t_X11_isShelf_27 {Γ : gS} {d : Nat} (hd : 0 ≤ d) {s0 : Int32} {h : aH} {r : Int32} {h' : aH} (H : f_X11_isShelf_27 s0 h = some (r, h')) : Ex Γ gX11_isShelf d 27 [] [.int s0] h (some (.int r)) h' := by
  unfold f_X11_isShelf_27 at H
  obtain ⟨c1, H⟩ := chk_o H
  obtain ⟨rfl, rfl⟩ := so_1 H
  exact x_iret dX11_isShelf_27 rfl c1
def f_X11_isShelf_26 (h : aH) : Option (Int32 × aH) :=
  f_X11_isShelf_27 0 h
set_option maxRecDepth 100000 in
set_option maxHeartbeats 4000000 in
theorem t_X11_isShelf_26 {Γ : gS} {d : Nat} (hd : 0 ≤ d) {h : aH} {r : Int32} {h' : aH} (H : f_X11_isShelf_26 h = some (r, h')) : Ex Γ gX11_isShelf d 26 [] [] h (some (.int r)) h' := by
  unfold f_X11_isShelf_26 at H
  refine x_iconst (v := 0) dX11_isShelf_26 (by decide) ?_
  exact t_X11_isShelf_27 hd H
def f_X11_isShelf (x0 : Nat) (x1 : Int32) (h : aH) : Option (Int32 × aH) :=
  ko h x0 10 <|
  if (hI h x0 12) = 0 then
    f_X11_isShelf_26 h
  else
    if x1 < 0 then
      f_X11_isShelf_26 h
    else
      kr (hR h x0 9) fun a5 =>
      ko h a5 4 <|
      if (hI h a5 3) ≤ x1 then
        f_X11_isShelf_26 h
      else
        f_X11_isShelf_27 1 h
set_option maxRecDepth 100000 in
set_option maxHeartbeats 4000000 in
theorem t_X11_isShelf {Γ : gS} {d : Nat} (hd : 0 ≤ d) {x0 : Nat} {x1 : Int32} {h : aH} {r : Int32} {h' : aH} (H : f_X11_isShelf x0 x1 h = some (r, h')) : Mx Γ gX11_isShelf d [.ref x0, .int x1] h (some (.int r)) h' := by
  refine Mx.of (by decide +kernel) (Nat.le_of_ble_eq_true rfl) ?_
  unfold f_X11_isShelf at H
  show Ex Γ gX11_isShelf d 0 [(0, .ref x0), (1, .int x1)] [] h (some (.int r)) h'
  refine x_aload_n dX11_isShelf_0 rfl 0 rfl ?_
  obtain ⟨c2, H⟩ := ko_o H
  refine x_getI fr_X11_89 dX11_isShelf_1 c2 rfl ?_
  refine x_if_eq (tgt := 26) dX11_isShelf_4 (by decide) (fun c3 => ?_) (fun c3 => ?_)
  · replace H := ite_p H c3
    refine Ex.sub [] rfl ?_
    exact t_X11_isShelf_26 hd H
  · replace H := ite_m H c3
    refine x_iload_n dX11_isShelf_7 rfl 1 rfl ?_
    refine x_if_lt (tgt := 26) dX11_isShelf_8 (by decide) (fun c4 => ?_) (fun c4 => ?_)
    · replace H := ite_p H c4
      refine Ex.sub [] rfl ?_
      exact t_X11_isShelf_26 hd H
    · replace H := ite_m H c4
      refine x_iload_n dX11_isShelf_11 rfl 1 rfl ?_
      refine x_aload_n dX11_isShelf_12 rfl 0 rfl ?_
      obtain ⟨a5, c6, H⟩ := kr_o H
      refine x_getR fr_X11_73 dX11_isShelf_13 c2 rfl c6 ?_
      obtain ⟨c7, H⟩ := ko_o H
      refine x_getI fr_X11_187 dX11_isShelf_16 c7 rfl ?_
      refine x_icmp_ge (tgt := 26) dX11_isShelf_19 (by decide) (fun c8 => ?_) (fun c8 => ?_)
      · replace H := ite_p H c8
        refine Ex.sub [] rfl ?_
        exact t_X11_isShelf_26 hd H
      · replace H := ite_m H c8
        refine x_iconst (v := 1) dX11_isShelf_22 (by decide) ?_
        refine x_goto (tgt := 27) dX11_isShelf_23 (by decide) ?_
        refine Ex.sub [] rfl ?_
        exact t_X11_isShelf_27 hd H
def f_X11_letter_18 (h : aH) : Option (Int32 × aH) :=
  some ((-1), h)
set_option maxRecDepth 100000 in
set_option maxHeartbeats 4000000 in
theorem t_X11_letter_18 {Γ : gS} {d : Nat} (hd : 1 ≤ d) {h : aH} {r : Int32} {h' : aH} (H : f_X11_letter_18 h = some (r, h')) : Ex Γ gX11_letter d 18 [] [] h (some (.int r)) h' := by
  unfold f_X11_letter_18 at H
  obtain ⟨d, rfl⟩ : ∃ e, d = e + 1 := ⟨d - 1, by omega⟩
  refine x_iconst (v := (-1)) dX11_letter_18 (by decide) ?_
  obtain ⟨rfl, rfl⟩ := so_1 H
  exact x_iret dX11_letter_19 rfl rfl
def f_X11_letter (x0 : Nat) (x1 : Int32) (x2 : Int32) (h : aH) : Option (Int32 × aH) :=
  ko h x0 10 <|
  bd (f_X11_isShelf x0 x1 h) fun v1 h2 =>
  if v1 = 0 then
    f_X11_letter_18 h2
  else
    if x2 < 0 then
      f_X11_letter_18 h2
    else
      if x2 < 6 then
        ko h2 x0 10 <|
        kr (hR h2 x0 9) fun a8 =>
        ko h2 a8 4 <|
        kr (hR h2 a8 4) fun a11 =>
        ka h2 a11 .byte fun n14 =>
        chk (inb ((x1 * 6) + x2) n14 = true) <|
        some (hI h2 a11 ((x1 * 6) + x2 : Int32).toNatClampNeg, h2)
      else
        f_X11_letter_18 h2
set_option maxRecDepth 100000 in
set_option maxHeartbeats 4000000 in
theorem t_X11_letter {Γ : gS} {d : Nat} (hd : 1 ≤ d) {x0 : Nat} {x1 : Int32} {x2 : Int32} {h : aH} {r : Int32} {h' : aH} (H : f_X11_letter x0 x1 x2 h = some (r, h')) : Mx Γ gX11_letter d [.ref x0, .int x1, .int x2] h (some (.int r)) h' := by
  refine Mx.of (by decide +kernel) (Nat.le_of_ble_eq_true rfl) ?_
  unfold f_X11_letter at H
  show Ex Γ gX11_letter d 0 [(0, .ref x0), (1, .int x1), (2, .int x2)] [] h (some (.int r)) h'
  obtain ⟨d, rfl⟩ : ∃ e, d = e + 1 := ⟨d - 1, by omega⟩
  refine x_aload_n dX11_letter_0 rfl 0 rfl ?_
  refine x_iload_n dX11_letter_1 rfl 1 rfl ?_
  obtain ⟨c16, H⟩ := ko_o H
  obtain ⟨v1, h2, hc3, H⟩ := bd_o H
  refine x_callVi (As := [.int x1]) (q := (RX11, TX11, 17)) dX11_letter_2 mi_X11_isShelf lk_X11_190 im_X11_isShelf se_X11_isShelf rfl c16 rfl rfl (Nat.le_of_ble_eq_true rfl) (t_X11_isShelf (by omega) hc3) ?_
  refine x_if_eq (tgt := 18) dX11_letter_5 (by decide) (fun c4 => ?_) (fun c4 => ?_)
  · replace H := ite_p H c4
    refine Ex.sub [] rfl ?_
    exact t_X11_letter_18 hd H
  · replace H := ite_m H c4
    refine x_iload_n dX11_letter_8 rfl 2 rfl ?_
    refine x_if_lt (tgt := 18) dX11_letter_9 (by decide) (fun c5 => ?_) (fun c5 => ?_)
    · replace H := ite_p H c5
      refine Ex.sub [] rfl ?_
      exact t_X11_letter_18 hd H
    · replace H := ite_m H c5
      refine x_iload_n dX11_letter_12 rfl 2 rfl ?_
      refine x_bipush (v := 6) dX11_letter_13 (by decide) ?_
      refine x_icmp_lt (tgt := 20) dX11_letter_15 (by decide) (fun c6 => ?_) (fun c6 => ?_)
      · replace H := ite_p H c6
        refine x_aload_n dX11_letter_20 rfl 0 rfl ?_
        obtain ⟨c7, H⟩ := ko_o H
        obtain ⟨a8, c9, H⟩ := kr_o H
        refine x_getR fr_X11_73 dX11_letter_21 c7 rfl c9 ?_
        obtain ⟨c10, H⟩ := ko_o H
        obtain ⟨a11, c12, H⟩ := kr_o H
        refine x_getR fr_X11_193 dX11_letter_24 c10 rfl c12 ?_
        refine x_iload_n dX11_letter_27 rfl 1 rfl ?_
        refine x_bipush (v := 6) dX11_letter_28 (by decide) ?_
        refine x_imul dX11_letter_30 ?_
        refine x_iload_n dX11_letter_31 rfl 2 rfl ?_
        refine x_iadd dX11_letter_32 ?_
        obtain ⟨n14, c13, H⟩ := ka_o H
        obtain ⟨c15, H⟩ := chk_o H
        refine x_bald dX11_letter_33 c13 (inb_in.mp c15) ?_
        obtain ⟨rfl, rfl⟩ := so_1 H
        exact x_iret dX11_letter_34 rfl rfl
      · replace H := ite_m H c6
        refine Ex.sub [] rfl ?_
        exact t_X11_letter_18 hd H
def f_X11_isPointer_22 (s0 : Int32) (h : aH) : Option (Int32 × aH) :=
  chk (narrow .boolean (.int s0) = .int s0) <|
  some (s0, h)
set_option maxRecDepth 100000 in
set_option maxHeartbeats 4000000 in
theorem t_X11_isPointer_22 {Γ : gS} {d : Nat} (hd : 0 ≤ d) {s0 : Int32} {h : aH} {r : Int32} {h' : aH} (H : f_X11_isPointer_22 s0 h = some (r, h')) : Ex Γ gX11_isPointer d 22 [] [.int s0] h (some (.int r)) h' := by
  unfold f_X11_isPointer_22 at H
  obtain ⟨c1, H⟩ := chk_o H
  obtain ⟨rfl, rfl⟩ := so_1 H
  exact x_iret dX11_isPointer_22 rfl c1
def f_X11_isPointer_21 (h : aH) : Option (Int32 × aH) :=
  f_X11_isPointer_22 0 h
set_option maxRecDepth 100000 in
set_option maxHeartbeats 4000000 in
theorem t_X11_isPointer_21 {Γ : gS} {d : Nat} (hd : 0 ≤ d) {h : aH} {r : Int32} {h' : aH} (H : f_X11_isPointer_21 h = some (r, h')) : Ex Γ gX11_isPointer d 21 [] [] h (some (.int r)) h' := by
  unfold f_X11_isPointer_21 at H
  refine x_iconst (v := 0) dX11_isPointer_21 (by decide) ?_
  exact t_X11_isPointer_22 hd H
def f_X11_isPointer (x0 : Nat) (x1 : Int32) (h : aH) : Option (Int32 × aH) :=
  ko h x0 10 <|
  if (hI h x0 12) = 0 then
    f_X11_isPointer_21 h
  else
    if x1 < 0 then
      f_X11_isPointer_21 h
    else
      if 16 ≤ x1 then
        f_X11_isPointer_21 h
      else
        f_X11_isPointer_22 1 h
set_option maxRecDepth 100000 in
set_option maxHeartbeats 4000000 in
theorem t_X11_isPointer {Γ : gS} {d : Nat} (hd : 0 ≤ d) {x0 : Nat} {x1 : Int32} {h : aH} {r : Int32} {h' : aH} (H : f_X11_isPointer x0 x1 h = some (r, h')) : Mx Γ gX11_isPointer d [.ref x0, .int x1] h (some (.int r)) h' := by
  refine Mx.of (by decide +kernel) (Nat.le_of_ble_eq_true rfl) ?_
  unfold f_X11_isPointer at H
  show Ex Γ gX11_isPointer d 0 [(0, .ref x0), (1, .int x1)] [] h (some (.int r)) h'
  refine x_aload_n dX11_isPointer_0 rfl 0 rfl ?_
  obtain ⟨c2, H⟩ := ko_o H
  refine x_getI fr_X11_89 dX11_isPointer_1 c2 rfl ?_
  refine x_if_eq (tgt := 21) dX11_isPointer_4 (by decide) (fun c3 => ?_) (fun c3 => ?_)
  · replace H := ite_p H c3
    refine Ex.sub [] rfl ?_
    exact t_X11_isPointer_21 hd H
  · replace H := ite_m H c3
    refine x_iload_n dX11_isPointer_7 rfl 1 rfl ?_
    refine x_if_lt (tgt := 21) dX11_isPointer_8 (by decide) (fun c4 => ?_) (fun c4 => ?_)
    · replace H := ite_p H c4
      refine Ex.sub [] rfl ?_
      exact t_X11_isPointer_21 hd H
    · replace H := ite_m H c4
      refine x_iload_n dX11_isPointer_11 rfl 1 rfl ?_
      refine x_bipush (v := 16) dX11_isPointer_12 (by decide) ?_
      refine x_icmp_ge (tgt := 21) dX11_isPointer_14 (by decide) (fun c5 => ?_) (fun c5 => ?_)
      · replace H := ite_p H c5
        refine Ex.sub [] rfl ?_
        exact t_X11_isPointer_21 hd H
      · replace H := ite_m H c5
        refine x_iconst (v := 1) dX11_isPointer_17 (by decide) ?_
        refine x_goto (tgt := 22) dX11_isPointer_18 (by decide) ?_
        refine Ex.sub [] rfl ?_
        exact t_X11_isPointer_22 hd H
def f_X11_pointer_32 (s0 : Int32) (h : aH) : Option (Int32 × aH) :=
  some (s0, h)
set_option maxRecDepth 100000 in
set_option maxHeartbeats 4000000 in
theorem t_X11_pointer_32 {Γ : gS} {d : Nat} (hd : 3 ≤ d) {s0 : Int32} {h : aH} {r : Int32} {h' : aH} (H : f_X11_pointer_32 s0 h = some (r, h')) : Ex Γ gX11_pointer d 32 [] [.int s0] h (some (.int r)) h' := by
  unfold f_X11_pointer_32 at H
  obtain ⟨d, rfl⟩ : ∃ e, d = e + 1 := ⟨d - 1, by omega⟩
  obtain ⟨rfl, rfl⟩ := so_1 H
  exact x_iret dX11_pointer_32 rfl rfl
def f_X11_pointer (x0 : Nat) (x1 : Int32) (x2 : Int32) (h : aH) : Option (Int32 × aH) :=
  ko h x0 10 <|
  bd (f_X11_isPointer x0 x1 h) fun v1 h2 =>
  if v1 = 0 then
    f_X11_pointer_32 (-1) h2
  else
    ko h2 x0 10 <|
    kr (hR h2 x0 2) fun a6 =>
    ko h2 a6 9 <|
    kr (hR h2 a6 0) fun a9 =>
    ka h2 a9 (.object RX6) fun n12 =>
    chk (inb x1 n12 = true) <|
    kr (hR h2 a9 x1.toNatClampNeg) fun a14 =>
    kr (hR h2 x0 9) fun a16 =>
    ko h2 a16 4 <|
    ko h2 a14 6 <|
    bd (f_X6_tell a14 x2 (hI h2 a16 2) h2) fun v19 h20 =>
    f_X11_pointer_32 v19 h20
set_option maxRecDepth 100000 in
set_option maxHeartbeats 4000000 in
theorem t_X11_pointer {Γ : gS} {d : Nat} (hd : 3 ≤ d) {x0 : Nat} {x1 : Int32} {x2 : Int32} {h : aH} {r : Int32} {h' : aH} (H : f_X11_pointer x0 x1 x2 h = some (r, h')) : Mx Γ gX11_pointer d [.ref x0, .int x1, .int x2] h (some (.int r)) h' := by
  refine Mx.of (by decide +kernel) (Nat.le_of_ble_eq_true rfl) ?_
  unfold f_X11_pointer at H
  show Ex Γ gX11_pointer d 0 [(0, .ref x0), (1, .int x1), (2, .int x2)] [] h (some (.int r)) h'
  obtain ⟨d, rfl⟩ : ∃ e, d = e + 1 := ⟨d - 1, by omega⟩
  refine x_aload_n dX11_pointer_0 rfl 0 rfl ?_
  refine x_iload_n dX11_pointer_1 rfl 1 rfl ?_
  obtain ⟨c23, H⟩ := ko_o H
  obtain ⟨v1, h2, hc3, H⟩ := bd_o H
  refine x_callVi (As := [.int x1]) (q := (RX11, TX11, 17)) dX11_pointer_2 mi_X11_isPointer lk_X11_196 im_X11_isPointer se_X11_isPointer rfl c23 rfl rfl (Nat.le_of_ble_eq_true rfl) (t_X11_isPointer (by omega) hc3) ?_
  refine x_if_eq (tgt := 31) dX11_pointer_5 (by decide) (fun c4 => ?_) (fun c4 => ?_)
  · replace H := ite_p H c4
    refine x_iconst (v := (-1)) dX11_pointer_31 (by decide) ?_
    refine Ex.sub [] rfl ?_
    exact t_X11_pointer_32 hd H
  · replace H := ite_m H c4
    refine x_aload_n dX11_pointer_8 rfl 0 rfl ?_
    obtain ⟨c5, H⟩ := ko_o H
    obtain ⟨a6, c7, H⟩ := kr_o H
    refine x_getR fr_X11_20 dX11_pointer_9 c5 rfl c7 ?_
    obtain ⟨c8, H⟩ := ko_o H
    obtain ⟨a9, c10, H⟩ := kr_o H
    refine x_getR fr_X11_36 dX11_pointer_12 c8 rfl c10 ?_
    refine x_iload_n dX11_pointer_15 rfl 1 rfl ?_
    obtain ⟨n12, c11, H⟩ := ka_o H
    obtain ⟨c13, H⟩ := chk_o H
    obtain ⟨a14, c15, H⟩ := kr_o H
    refine x_aald dX11_pointer_16 c11 (by decide) (inb_in.mp c13) c15 ?_
    refine x_iload_n dX11_pointer_17 rfl 2 rfl ?_
    refine x_aload_n dX11_pointer_18 rfl 0 rfl ?_
    obtain ⟨a16, c17, H⟩ := kr_o H
    refine x_getR fr_X11_73 dX11_pointer_19 c5 rfl c17 ?_
    obtain ⟨c18, H⟩ := ko_o H
    refine x_getI fr_X11_151 dX11_pointer_22 c18 rfl ?_
    obtain ⟨c22, H⟩ := ko_o H
    obtain ⟨v19, h20, hc21, H⟩ := bd_o H
    refine x_callVi (As := [.int x2, .int (hI h2 a16 2)]) (q := (RX6, TX6, 8)) dX11_pointer_25 mi_X6_tell lk_X11_199 im_X6_tell se_X6_tell rfl c22 rfl rfl (Nat.le_of_ble_eq_true rfl) (t_X6_tell (by omega) hc21) ?_
    refine x_goto (tgt := 32) dX11_pointer_28 (by decide) ?_
    refine Ex.sub [] rfl ?_
    exact t_X11_pointer_32 hd H
def f_X11_isPlace_22 (s0 : Int32) (h : aH) : Option (Int32 × aH) :=
  chk (narrow .boolean (.int s0) = .int s0) <|
  some (s0, h)
set_option maxRecDepth 100000 in
set_option maxHeartbeats 4000000 in
theorem t_X11_isPlace_22 {Γ : gS} {d : Nat} (hd : 1 ≤ d) {s0 : Int32} {h : aH} {r : Int32} {h' : aH} (H : f_X11_isPlace_22 s0 h = some (r, h')) : Ex Γ gX11_isPlace d 22 [] [.int s0] h (some (.int r)) h' := by
  unfold f_X11_isPlace_22 at H
  obtain ⟨d, rfl⟩ : ∃ e, d = e + 1 := ⟨d - 1, by omega⟩
  obtain ⟨c1, H⟩ := chk_o H
  obtain ⟨rfl, rfl⟩ := so_1 H
  exact x_iret dX11_isPlace_22 rfl c1
def f_X11_isPlace_21 (h : aH) : Option (Int32 × aH) :=
  f_X11_isPlace_22 0 h
set_option maxRecDepth 100000 in
set_option maxHeartbeats 4000000 in
theorem t_X11_isPlace_21 {Γ : gS} {d : Nat} (hd : 1 ≤ d) {h : aH} {r : Int32} {h' : aH} (H : f_X11_isPlace_21 h = some (r, h')) : Ex Γ gX11_isPlace d 21 [] [] h (some (.int r)) h' := by
  unfold f_X11_isPlace_21 at H
  obtain ⟨d, rfl⟩ : ∃ e, d = e + 1 := ⟨d - 1, by omega⟩
  refine x_iconst (v := 0) dX11_isPlace_21 (by decide) ?_
  exact t_X11_isPlace_22 hd H
def f_X11_isPlace (x0 : Nat) (x1 : Int32) (x2 : Int32) (h : aH) : Option (Int32 × aH) :=
  ko h x0 10 <|
  bd (f_X11_isShelf x0 x1 h) fun v2 h3 =>
  if v2 = 0 then
    f_X11_isPlace_21 h3
  else
    if x2 < 0 then
      f_X11_isPlace_21 h3
    else
      if 4 ≤ x2 then
        f_X11_isPlace_21 h3
      else
        f_X11_isPlace_22 1 h3
set_option maxRecDepth 100000 in
set_option maxHeartbeats 4000000 in
theorem t_X11_isPlace {Γ : gS} {d : Nat} (hd : 1 ≤ d) {x0 : Nat} {x1 : Int32} {x2 : Int32} {h : aH} {r : Int32} {h' : aH} (H : f_X11_isPlace x0 x1 x2 h = some (r, h')) : Mx Γ gX11_isPlace d [.ref x0, .int x1, .int x2] h (some (.int r)) h' := by
  refine Mx.of (by decide +kernel) (Nat.le_of_ble_eq_true rfl) ?_
  unfold f_X11_isPlace at H
  show Ex Γ gX11_isPlace d 0 [(0, .ref x0), (1, .int x1), (2, .int x2)] [] h (some (.int r)) h'
  obtain ⟨d, rfl⟩ : ∃ e, d = e + 1 := ⟨d - 1, by omega⟩
  refine x_aload_n dX11_isPlace_0 rfl 0 rfl ?_
  refine x_iload_n dX11_isPlace_1 rfl 1 rfl ?_
  obtain ⟨c8, H⟩ := ko_o H
  obtain ⟨v2, h3, hc4, H⟩ := bd_o H
  refine x_callVi (As := [.int x1]) (q := (RX11, TX11, 17)) dX11_isPlace_2 mi_X11_isShelf lk_X11_190 im_X11_isShelf se_X11_isShelf rfl c8 rfl rfl (Nat.le_of_ble_eq_true rfl) (t_X11_isShelf (by omega) hc4) ?_
  refine x_if_eq (tgt := 21) dX11_isPlace_5 (by decide) (fun c5 => ?_) (fun c5 => ?_)
  · replace H := ite_p H c5
    refine Ex.sub [] rfl ?_
    exact t_X11_isPlace_21 hd H
  · replace H := ite_m H c5
    refine x_iload_n dX11_isPlace_8 rfl 2 rfl ?_
    refine x_if_lt (tgt := 21) dX11_isPlace_9 (by decide) (fun c6 => ?_) (fun c6 => ?_)
    · replace H := ite_p H c6
      refine Ex.sub [] rfl ?_
      exact t_X11_isPlace_21 hd H
    · replace H := ite_m H c6
      refine x_iload_n dX11_isPlace_12 rfl 2 rfl ?_
      refine x_iconst (v := 4) dX11_isPlace_13 (by decide) ?_
      refine x_icmp_ge (tgt := 21) dX11_isPlace_14 (by decide) (fun c7 => ?_) (fun c7 => ?_)
      · replace H := ite_p H c7
        refine Ex.sub [] rfl ?_
        exact t_X11_isPlace_21 hd H
      · replace H := ite_m H c7
        refine x_iconst (v := 1) dX11_isPlace_17 (by decide) ?_
        refine x_goto (tgt := 22) dX11_isPlace_18 (by decide) ?_
        refine Ex.sub [] rfl ?_
        exact t_X11_isPlace_22 hd H
def f_X11_placeIndex (x0 : Int32) (x1 : Int32) (h : aH) : Option (Int32 × aH) :=
  some ((16 + (x0 * 4)) + x1, h)
set_option maxRecDepth 100000 in
set_option maxHeartbeats 4000000 in
theorem t_X11_placeIndex {Γ : gS} {d : Nat} (hd : 0 ≤ d) {x0 : Int32} {x1 : Int32} {h : aH} {r : Int32} {h' : aH} (H : f_X11_placeIndex x0 x1 h = some (r, h')) : Mx Γ gX11_placeIndex d [.int x0, .int x1] h (some (.int r)) h' := by
  refine Mx.of (by decide +kernel) (Nat.le_of_ble_eq_true rfl) ?_
  unfold f_X11_placeIndex at H
  show Ex Γ gX11_placeIndex d 0 [(0, .int x0), (1, .int x1)] [] h (some (.int r)) h'
  refine x_bipush (v := 16) dX11_placeIndex_0 (by decide) ?_
  refine x_iload_n dX11_placeIndex_2 rfl 0 rfl ?_
  refine x_iconst (v := 4) dX11_placeIndex_3 (by decide) ?_
  refine x_imul dX11_placeIndex_4 ?_
  refine x_iadd dX11_placeIndex_5 ?_
  refine x_iload_n dX11_placeIndex_6 rfl 1 rfl ?_
  refine x_iadd dX11_placeIndex_7 ?_
  obtain ⟨rfl, rfl⟩ := so_1 H
  exact x_iret dX11_placeIndex_8 rfl rfl
def f_X11_shelf_51 (s0 : Int32) (h : aH) : Option (Int32 × aH) :=
  some (s0, h)
set_option maxRecDepth 100000 in
set_option maxHeartbeats 4000000 in
theorem t_X11_shelf_51 {Γ : gS} {d : Nat} (hd : 3 ≤ d) {s0 : Int32} {h : aH} {r : Int32} {h' : aH} (H : f_X11_shelf_51 s0 h = some (r, h')) : Ex Γ gX11_shelf d 51 [] [.int s0] h (some (.int r)) h' := by
  unfold f_X11_shelf_51 at H
  obtain ⟨d, rfl⟩ : ∃ e, d = e + 1 := ⟨d - 1, by omega⟩
  obtain ⟨rfl, rfl⟩ := so_1 H
  exact x_iret dX11_shelf_51 rfl rfl
def f_X11_shelf (x0 : Nat) (x1 : Int32) (x2 : Int32) (x3 : Int32) (h : aH) : Option (Int32 × aH) :=
  ko h x0 10 <|
  bd (f_X11_isPlace x0 x1 x2 h) fun v1 h2 =>
  if v1 = 0 then
    some ((-1), h2)
  else
    ko h2 x0 10 <|
    kr (hR h2 x0 2) fun a6 =>
    ko h2 a6 9 <|
    kr (hR h2 a6 0) fun a9 =>
    bd (f_X11_placeIndex x1 x2 h2) fun v11 h12 =>
    ka h12 a9 (.object RX6) fun n15 =>
    chk (inb v11 n15 = true) <|
    kr (hR h12 a9 v11.toNatClampNeg) fun a17 =>
    ko h12 a17 6 <|
    if (hI h12 a17 0) = 0 then
      f_X11_shelf_51 (-1) h12
    else
      ko h12 x0 10 <|
      kr (hR h12 x0 9) fun a22 =>
      ko h12 a22 4 <|
      bd (f_X6_tell a17 x3 (hI h12 a22 2) h12) fun v25 h26 =>
      f_X11_shelf_51 v25 h26
set_option maxRecDepth 100000 in
set_option maxHeartbeats 4000000 in
theorem t_X11_shelf {Γ : gS} {d : Nat} (hd : 3 ≤ d) {x0 : Nat} {x1 : Int32} {x2 : Int32} {x3 : Int32} {h : aH} {r : Int32} {h' : aH} (H : f_X11_shelf x0 x1 x2 x3 h = some (r, h')) : Mx Γ gX11_shelf d [.ref x0, .int x1, .int x2, .int x3] h (some (.int r)) h' := by
  refine Mx.of (by decide +kernel) (Nat.le_of_ble_eq_true rfl) ?_
  unfold f_X11_shelf at H
  show Ex Γ gX11_shelf d 0 [(0, .ref x0), (1, .int x1), (2, .int x2), (3, .int x3)] [] h (some (.int r)) h'
  obtain ⟨d, rfl⟩ : ∃ e, d = e + 1 := ⟨d - 1, by omega⟩
  refine x_aload_n dX11_shelf_0 rfl 0 rfl ?_
  refine x_iload_n dX11_shelf_1 rfl 1 rfl ?_
  refine x_iload_n dX11_shelf_2 rfl 2 rfl ?_
  obtain ⟨c28, H⟩ := ko_o H
  obtain ⟨v1, h2, hc3, H⟩ := bd_o H
  refine x_callVi (As := [.int x1, .int x2]) (q := (RX11, TX11, 17)) dX11_shelf_3 mi_X11_isPlace lk_X11_203 im_X11_isPlace se_X11_isPlace rfl c28 rfl rfl (Nat.le_of_ble_eq_true rfl) (t_X11_isPlace (by omega) hc3) ?_
  refine x_if_ne (tgt := 11) dX11_shelf_6 (by decide) (fun c4 => ?_) (fun c4 => ?_)
  · replace H := ite_m H c4
    refine x_aload_n dX11_shelf_11 rfl 0 rfl ?_
    obtain ⟨c5, H⟩ := ko_o H
    obtain ⟨a6, c7, H⟩ := kr_o H
    refine x_getR fr_X11_20 dX11_shelf_12 c5 rfl c7 ?_
    obtain ⟨c8, H⟩ := ko_o H
    obtain ⟨a9, c10, H⟩ := kr_o H
    refine x_getR fr_X11_36 dX11_shelf_15 c8 rfl c10 ?_
    refine x_iload_n dX11_shelf_18 rfl 1 rfl ?_
    refine x_iload_n dX11_shelf_19 rfl 2 rfl ?_
    obtain ⟨v11, h12, hc13, H⟩ := bd_o H
    refine x_callSi (As := [.int x1, .int x2]) dX11_shelf_20 mi_X11_placeIndex lk_X11_207 sm_X11_placeIndex rfl rfl (Nat.le_of_ble_eq_true rfl) (t_X11_placeIndex (by omega) hc13) ?_
    obtain ⟨n15, c14, H⟩ := ka_o H
    obtain ⟨c16, H⟩ := chk_o H
    obtain ⟨a17, c18, H⟩ := kr_o H
    refine x_aald dX11_shelf_23 c14 (by decide) (inb_in.mp c16) c18 ?_
    refine x_astore (lv' := [(4, .ref a17), (0, .ref x0), (1, .int x1), (2, .int x2), (3, .int x3)]) dX11_shelf_24 (by decide) rfl rfl ?_
    refine x_aload dX11_shelf_26 0 rfl ?_
    obtain ⟨c19, H⟩ := ko_o H
    refine x_getI fr_X11_210 dX11_shelf_28 c19 rfl ?_
    refine x_if_eq (tgt := 50) dX11_shelf_31 (by decide) (fun c20 => ?_) (fun c20 => ?_)
    · replace H := ite_p H c20
      refine x_iconst (v := (-1)) dX11_shelf_50 (by decide) ?_
      refine Ex.sub [] rfl ?_
      exact t_X11_shelf_51 hd H
    · replace H := ite_m H c20
      refine x_aload dX11_shelf_34 0 rfl ?_
      refine x_iload_n dX11_shelf_36 rfl 4 rfl ?_
      refine x_aload_n dX11_shelf_37 rfl 1 rfl ?_
      obtain ⟨c21, H⟩ := ko_o H
      obtain ⟨a22, c23, H⟩ := kr_o H
      refine x_getR fr_X11_73 dX11_shelf_38 c21 rfl c23 ?_
      obtain ⟨c24, H⟩ := ko_o H
      refine x_getI fr_X11_151 dX11_shelf_41 c24 rfl ?_
      obtain ⟨v25, h26, hc27, H⟩ := bd_o H
      refine x_callVi (As := [.int x3, .int (hI h12 a22 2)]) (q := (RX6, TX6, 8)) dX11_shelf_44 mi_X6_tell lk_X11_199 im_X6_tell se_X6_tell rfl c19 rfl rfl (Nat.le_of_ble_eq_true rfl) (t_X6_tell (by omega) hc27) ?_
      refine x_goto (tgt := 51) dX11_shelf_47 (by decide) ?_
      refine Ex.sub [] rfl ?_
      exact t_X11_shelf_51 hd H
  · replace H := ite_p H c4
    refine x_iconst (v := (-1)) dX11_shelf_9 (by decide) ?_
    obtain ⟨rfl, rfl⟩ := so_1 H
    exact x_iret dX11_shelf_10 rfl rfl
def f_X11_object_22 (h : aH) : Option (Int32 × aH) :=
  some ((-1), h)
set_option maxRecDepth 100000 in
set_option maxHeartbeats 4000000 in
theorem t_X11_object_22 {Γ : gS} {d : Nat} (hd : 0 ≤ d) {h : aH} {r : Int32} {h' : aH} (H : f_X11_object_22 h = some (r, h')) : Ex Γ gX11_object d 22 [] [] h (some (.int r)) h' := by
  unfold f_X11_object_22 at H
  refine x_iconst (v := (-1)) dX11_object_22 (by decide) ?_
  obtain ⟨rfl, rfl⟩ := so_1 H
  exact x_iret dX11_object_23 rfl rfl
def f_X11_object_82 (h : aH) : Option (Int32 × aH) :=
  some ((-1), h)
set_option maxRecDepth 100000 in
set_option maxHeartbeats 4000000 in
theorem t_X11_object_82 {Γ : gS} {d : Nat} (hd : 0 ≤ d) {h : aH} {r : Int32} {h' : aH} (H : f_X11_object_82 h = some (r, h')) : Ex Γ gX11_object d 82 [] [] h (some (.int r)) h' := by
  unfold f_X11_object_82 at H
  refine x_iconst (v := (-1)) dX11_object_82 (by decide) ?_
  obtain ⟨rfl, rfl⟩ := so_1 H
  exact x_iret dX11_object_83 rfl rfl
def f_X11_object (x0 : Nat) (x1 : Int32) (x2 : Int32) (h : aH) : Option (Int32 × aH) :=
  ko h x0 10 <|
  if (hI h x0 12) = 0 then
    f_X11_object_22 h
  else
    if x1 < 0 then
      f_X11_object_22 h
    else
      kr (hR h x0 2) fun a4 =>
      ko h a4 9 <|
      if x1 < (hI h a4 6) then
        if x2 < 0 then
          f_X11_object_82 h
        else
        if 2 < x2 then
          f_X11_object_82 h
        else
        if x2 = 0 then
          kr (hR h a4 1) fun a11 =>
          ka h a11 .int fun n14 =>
          chk (inb x1 n14 = true) <|
          some (hI h a11 x1.toNatClampNeg, h)
        else
        if x2 = 1 then
          kr (hR h a4 2) fun a17 =>
          ka h a17 .int fun n20 =>
          chk (inb x1 n20 = true) <|
          some (hI h a17 x1.toNatClampNeg, h)
        else
        if x2 = 2 then
          kr (hR h a4 3) fun a23 =>
          ka h a23 .int fun n26 =>
          chk (inb x1 n26 = true) <|
          some (hI h a23 x1.toNatClampNeg, h)
        else
        none
      else
        f_X11_object_22 h
set_option maxRecDepth 100000 in
set_option maxHeartbeats 4000000 in
theorem t_X11_object {Γ : gS} {d : Nat} (hd : 0 ≤ d) {x0 : Nat} {x1 : Int32} {x2 : Int32} {h : aH} {r : Int32} {h' : aH} (H : f_X11_object x0 x1 x2 h = some (r, h')) : Mx Γ gX11_object d [.ref x0, .int x1, .int x2] h (some (.int r)) h' := by
  refine Mx.of (by decide +kernel) (Nat.le_of_ble_eq_true rfl) ?_
  unfold f_X11_object at H
  show Ex Γ gX11_object d 0 [(0, .ref x0), (1, .int x1), (2, .int x2)] [] h (some (.int r)) h'
  refine x_aload_n dX11_object_0 rfl 0 rfl ?_
  obtain ⟨c1, H⟩ := ko_o H
  refine x_getI fr_X11_89 dX11_object_1 c1 rfl ?_
  refine x_if_eq (tgt := 22) dX11_object_4 (by decide) (fun c2 => ?_) (fun c2 => ?_)
  · replace H := ite_p H c2
    refine Ex.sub [] rfl ?_
    exact t_X11_object_22 hd H
  · replace H := ite_m H c2
    refine x_iload_n dX11_object_7 rfl 1 rfl ?_
    refine x_if_lt (tgt := 22) dX11_object_8 (by decide) (fun c3 => ?_) (fun c3 => ?_)
    · replace H := ite_p H c3
      refine Ex.sub [] rfl ?_
      exact t_X11_object_22 hd H
    · replace H := ite_m H c3
      refine x_iload_n dX11_object_11 rfl 1 rfl ?_
      refine x_aload_n dX11_object_12 rfl 0 rfl ?_
      obtain ⟨a4, c5, H⟩ := kr_o H
      refine x_getR fr_X11_20 dX11_object_13 c1 rfl c5 ?_
      obtain ⟨c6, H⟩ := ko_o H
      refine x_getI fr_X11_166 dX11_object_16 c6 rfl ?_
      refine x_icmp_lt (tgt := 24) dX11_object_19 (by decide) (fun c7 => ?_) (fun c7 => ?_)
      · replace H := ite_p H c7
        refine x_iload_n dX11_object_24 rfl 2 rfl ?_
        by_cases c8 : x2 < 0
        · replace H := ite_p H c8
          refine x_tableOut (tgt := 82) dX11_object_25 (Or.inl (sw_lo c8 (by decide))) (by decide) ?_
          refine Ex.sub [] rfl ?_
          exact t_X11_object_82 hd H
        replace H := ite_m H c8
        by_cases c9 : 2 < x2
        · replace H := ite_p H c9
          refine x_tableOut (tgt := 82) dX11_object_25 (Or.inr (sw_hi c9 (by decide))) (by decide) ?_
          refine Ex.sub [] rfl ?_
          exact t_X11_object_82 hd H
        replace H := ite_m H c9
        by_cases c10 : x2 = 0
        · replace H := ite_p H c10
          refine x_tableIn (tgt := 52) dX11_object_25 (by rw [c10]; decide) (by rw [c10]; decide) (by rw [c10]; rfl) (by decide) ?_
          refine x_aload_n dX11_object_52 rfl 0 rfl ?_
          refine x_getR fr_X11_20 dX11_object_53 c1 rfl c5 ?_
          obtain ⟨a11, c12, H⟩ := kr_o H
          refine x_getR fr_X11_213 dX11_object_56 c6 rfl c12 ?_
          refine x_iload_n dX11_object_59 rfl 1 rfl ?_
          obtain ⟨n14, c13, H⟩ := ka_o H
          obtain ⟨c15, H⟩ := chk_o H
          refine x_iald dX11_object_60 c13 (inb_in.mp c15) ?_
          obtain ⟨rfl, rfl⟩ := so_1 H
          exact x_iret dX11_object_61 rfl rfl
        replace H := ite_m H c10
        by_cases c16 : x2 = 1
        · replace H := ite_p H c16
          refine x_tableIn (tgt := 62) dX11_object_25 (by rw [c16]; decide) (by rw [c16]; decide) (by rw [c16]; rfl) (by decide) ?_
          refine x_aload_n dX11_object_62 rfl 0 rfl ?_
          refine x_getR fr_X11_20 dX11_object_63 c1 rfl c5 ?_
          obtain ⟨a17, c18, H⟩ := kr_o H
          refine x_getR fr_X11_216 dX11_object_66 c6 rfl c18 ?_
          refine x_iload_n dX11_object_69 rfl 1 rfl ?_
          obtain ⟨n20, c19, H⟩ := ka_o H
          obtain ⟨c21, H⟩ := chk_o H
          refine x_iald dX11_object_70 c19 (inb_in.mp c21) ?_
          obtain ⟨rfl, rfl⟩ := so_1 H
          exact x_iret dX11_object_71 rfl rfl
        replace H := ite_m H c16
        by_cases c22 : x2 = 2
        · replace H := ite_p H c22
          refine x_tableIn (tgt := 72) dX11_object_25 (by rw [c22]; decide) (by rw [c22]; decide) (by rw [c22]; rfl) (by decide) ?_
          refine x_aload_n dX11_object_72 rfl 0 rfl ?_
          refine x_getR fr_X11_20 dX11_object_73 c1 rfl c5 ?_
          obtain ⟨a23, c24, H⟩ := kr_o H
          refine x_getR fr_X11_219 dX11_object_76 c6 rfl c24 ?_
          refine x_iload_n dX11_object_79 rfl 1 rfl ?_
          obtain ⟨n26, c25, H⟩ := ka_o H
          obtain ⟨c27, H⟩ := chk_o H
          refine x_iald dX11_object_80 c25 (inb_in.mp c27) ?_
          obtain ⟨rfl, rfl⟩ := so_1 H
          exact x_iret dX11_object_81 rfl rfl
        replace H := ite_m H c22
        cases H
      · replace H := ite_m H c7
        refine Ex.sub [] rfl ?_
        exact t_X11_object_22 hd H
def f_X11_hole_26 (x0 : Nat) (x2 : Int32) (s0 : Int32) (h : aH) : Option (Int32 × aH) :=
  if s0 = (-1) then
    some ((-1), h)
  else
    if x2 = 0 then
      ko h x0 10 <|
      kr (hR h x0 2) fun a4 =>
      ko h a4 9 <|
      bd (f_X9_gapStart a4 s0 h) fun v6 h7 =>
      some (v6, h7)
    else
    if x2 = 1 then
      ko h x0 10 <|
      kr (hR h x0 2) fun a12 =>
      kr (hR h x0 9) fun a14 =>
      ko h a14 4 <|
      ko h a12 9 <|
      bd (f_X9_gapLength a12 s0 (hI h a14 1) h) fun v17 h18 =>
      some (v17, h18)
    else
    some ((-1), h)
set_option maxRecDepth 100000 in
set_option maxHeartbeats 4000000 in
theorem t_X11_hole_26 {Γ : gS} {d : Nat} (hd : 3 ≤ d) {x0 : Nat} {x2 : Int32} {s0 : Int32} {h : aH} {r : Int32} {h' : aH} (H : f_X11_hole_26 x0 x2 s0 h = some (r, h')) : Ex Γ gX11_hole d 26 [(0, .ref x0), (2, .int x2)] [.int s0] h (some (.int r)) h' := by
  unfold f_X11_hole_26 at H
  obtain ⟨d, rfl⟩ : ∃ e, d = e + 1 := ⟨d - 1, by omega⟩
  refine x_istore_n (lv' := [(3, .int s0), (0, .ref x0), (2, .int x2)]) dX11_hole_26 rfl (by decide) rfl rfl ?_
  refine x_iload_n dX11_hole_27 rfl 0 rfl ?_
  refine x_iconst (v := (-1)) dX11_hole_28 (by decide) ?_
  refine x_icmp_ne (tgt := 34) dX11_hole_29 (by decide) (fun c1 => ?_) (fun c1 => ?_)
  · replace H := ite_m H c1
    refine x_iload_n dX11_hole_34 rfl 2 rfl ?_
    by_cases c2 : x2 = 0
    · replace H := ite_p H c2
      refine x_lookup (tgt := 60) (off := 25) dX11_hole_35 (by decide) (by rw [c2]; rfl) (by decide) ?_
      refine x_aload_n dX11_hole_60 rfl 1 rfl ?_
      obtain ⟨c3, H⟩ := ko_o H
      obtain ⟨a4, c5, H⟩ := kr_o H
      refine x_getR fr_X11_20 dX11_hole_61 c3 rfl c5 ?_
      refine x_iload_n dX11_hole_64 rfl 0 rfl ?_
      obtain ⟨c9, H⟩ := ko_o H
      obtain ⟨v6, h7, hc8, H⟩ := bd_o H
      refine x_callVi (As := [.int s0]) (q := (RX9, TX9, 8)) dX11_hole_65 mi_X9_gapStart lk_X11_225 im_X9_gapStart se_X9_gapStart rfl c9 rfl rfl (Nat.le_of_ble_eq_true rfl) (t_X9_gapStart (by omega) hc8) ?_
      obtain ⟨rfl, rfl⟩ := so_1 H
      exact x_iret dX11_hole_68 rfl rfl
    replace H := ite_m H c2
    by_cases c10 : x2 = 1
    · replace H := ite_p H c10
      refine x_lookup (tgt := 69) (off := 34) dX11_hole_35 (by decide) (by rw [c10]; rfl) (by decide) ?_
      refine x_aload_n dX11_hole_69 rfl 1 rfl ?_
      obtain ⟨c11, H⟩ := ko_o H
      obtain ⟨a12, c13, H⟩ := kr_o H
      refine x_getR fr_X11_20 dX11_hole_70 c11 rfl c13 ?_
      refine x_iload_n dX11_hole_73 rfl 0 rfl ?_
      refine x_aload_n dX11_hole_74 rfl 1 rfl ?_
      obtain ⟨a14, c15, H⟩ := kr_o H
      refine x_getR fr_X11_73 dX11_hole_75 c11 rfl c15 ?_
      obtain ⟨c16, H⟩ := ko_o H
      refine x_getI fr_X11_160 dX11_hole_78 c16 rfl ?_
      obtain ⟨c20, H⟩ := ko_o H
      obtain ⟨v17, h18, hc19, H⟩ := bd_o H
      refine x_callVi (As := [.int s0, .int (hI h a14 1)]) (q := (RX9, TX9, 8)) dX11_hole_81 mi_X9_gapLength lk_X11_228 im_X9_gapLength se_X9_gapLength rfl c20 rfl rfl (Nat.le_of_ble_eq_true rfl) (t_X9_gapLength (by omega) hc19) ?_
      obtain ⟨rfl, rfl⟩ := so_1 H
      exact x_iret dX11_hole_84 rfl rfl
    replace H := ite_m H c10
    refine x_lookup (tgt := 85) (off := 50) dX11_hole_35 (by decide) (by show Op.lookupswitch.offset [(0, 25), (1, 34)] _ _ = _; rw [lv_osw c2 (by decide)]; rw [lv_osw c10 (by decide)]; rfl) (by decide) ?_
    refine x_iconst (v := (-1)) dX11_hole_85 (by decide) ?_
    obtain ⟨rfl, rfl⟩ := so_1 H
    exact x_iret dX11_hole_86 rfl rfl
  · replace H := ite_p H c1
    refine x_iconst (v := (-1)) dX11_hole_32 (by decide) ?_
    obtain ⟨rfl, rfl⟩ := so_1 H
    exact x_iret dX11_hole_33 rfl rfl
def f_X11_hole (x0 : Nat) (x1 : Int32) (x2 : Int32) (h : aH) : Option (Int32 × aH) :=
  ko h x0 10 <|
  if (hI h x0 12) = 0 then
    f_X11_hole_26 x0 x2 (-1) h
  else
    kr (hR h x0 2) fun a23 =>
    kr (hR h x0 9) fun a25 =>
    ko h a25 4 <|
    ko h a23 9 <|
    bd (f_X9_gapOfHole a23 x1 (hI h a25 1) h) fun v28 h29 =>
    f_X11_hole_26 x0 x2 v28 h29
set_option maxRecDepth 100000 in
set_option maxHeartbeats 4000000 in
theorem t_X11_hole {Γ : gS} {d : Nat} (hd : 3 ≤ d) {x0 : Nat} {x1 : Int32} {x2 : Int32} {h : aH} {r : Int32} {h' : aH} (H : f_X11_hole x0 x1 x2 h = some (r, h')) : Mx Γ gX11_hole d [.ref x0, .int x1, .int x2] h (some (.int r)) h' := by
  refine Mx.of (by decide +kernel) (Nat.le_of_ble_eq_true rfl) ?_
  unfold f_X11_hole at H
  show Ex Γ gX11_hole d 0 [(0, .ref x0), (1, .int x1), (2, .int x2)] [] h (some (.int r)) h'
  obtain ⟨d, rfl⟩ : ∃ e, d = e + 1 := ⟨d - 1, by omega⟩
  refine x_aload_n dX11_hole_0 rfl 0 rfl ?_
  obtain ⟨c21, H⟩ := ko_o H
  refine x_getI fr_X11_89 dX11_hole_1 c21 rfl ?_
  refine x_if_eq (tgt := 25) dX11_hole_4 (by decide) (fun c22 => ?_) (fun c22 => ?_)
  · replace H := ite_p H c22
    refine x_iconst (v := (-1)) dX11_hole_25 (by decide) ?_
    refine Ex.sub [0, 2] rfl ?_
    exact t_X11_hole_26 hd H
  · replace H := ite_m H c22
    refine x_aload_n dX11_hole_7 rfl 0 rfl ?_
    obtain ⟨a23, c24, H⟩ := kr_o H
    refine x_getR fr_X11_20 dX11_hole_8 c21 rfl c24 ?_
    refine x_iload_n dX11_hole_11 rfl 1 rfl ?_
    refine x_aload_n dX11_hole_12 rfl 0 rfl ?_
    obtain ⟨a25, c26, H⟩ := kr_o H
    refine x_getR fr_X11_73 dX11_hole_13 c21 rfl c26 ?_
    obtain ⟨c27, H⟩ := ko_o H
    refine x_getI fr_X11_160 dX11_hole_16 c27 rfl ?_
    obtain ⟨c31, H⟩ := ko_o H
    obtain ⟨v28, h29, hc30, H⟩ := bd_o H
    refine x_callVi (As := [.int x1, .int (hI h a25 1)]) (q := (RX9, TX9, 8)) dX11_hole_19 mi_X9_gapOfHole lk_X11_222 im_X9_gapOfHole se_X9_gapOfHole rfl c31 rfl rfl (Nat.le_of_ble_eq_true rfl) (t_X9_gapOfHole (by omega) hc30) ?_
    refine x_goto (tgt := 26) dX11_hole_22 (by decide) ?_
    refine Ex.sub [0, 2] rfl ?_
    exact t_X11_hole_26 hd H
def f_X11_octetAt_34 (s0 : Int32) (h : aH) : Option (Int32 × aH) :=
  some (s0, h)
set_option maxRecDepth 100000 in
set_option maxHeartbeats 4000000 in
theorem t_X11_octetAt_34 {Γ : gS} {d : Nat} (hd : 1 ≤ d) {s0 : Int32} {h : aH} {r : Int32} {h' : aH} (H : f_X11_octetAt_34 s0 h = some (r, h')) : Ex Γ gX11_octetAt d 34 [] [.int s0] h (some (.int r)) h' := by
  unfold f_X11_octetAt_34 at H
  obtain ⟨d, rfl⟩ : ∃ e, d = e + 1 := ⟨d - 1, by omega⟩
  obtain ⟨rfl, rfl⟩ := so_1 H
  exact x_iret dX11_octetAt_34 rfl rfl
def f_X11_octetAt_33 (h : aH) : Option (Int32 × aH) :=
  f_X11_octetAt_34 (-1) h
set_option maxRecDepth 100000 in
set_option maxHeartbeats 4000000 in
theorem t_X11_octetAt_33 {Γ : gS} {d : Nat} (hd : 1 ≤ d) {h : aH} {r : Int32} {h' : aH} (H : f_X11_octetAt_33 h = some (r, h')) : Ex Γ gX11_octetAt d 33 [] [] h (some (.int r)) h' := by
  unfold f_X11_octetAt_33 at H
  obtain ⟨d, rfl⟩ : ∃ e, d = e + 1 := ⟨d - 1, by omega⟩
  refine x_iconst (v := (-1)) dX11_octetAt_33 (by decide) ?_
  exact t_X11_octetAt_34 hd H
def f_X11_octetAt (x0 : Nat) (x1 : Int32) (h : aH) : Option (Int32 × aH) :=
  ko h x0 10 <|
  if (hI h x0 12) = 0 then
    f_X11_octetAt_33 h
  else
    if x1 < 0 then
      f_X11_octetAt_33 h
    else
      kr (hR h x0 9) fun a4 =>
      ko h a4 4 <|
      if (hI h a4 1) ≤ x1 then
        f_X11_octetAt_33 h
      else
        kr (hR h x0 2) fun a8 =>
        ko h a8 9 <|
        bd (f_X9_byteAt a8 x1 h) fun v10 h11 =>
        f_X11_octetAt_34 v10 h11
set_option maxRecDepth 100000 in
set_option maxHeartbeats 4000000 in
theorem t_X11_octetAt {Γ : gS} {d : Nat} (hd : 1 ≤ d) {x0 : Nat} {x1 : Int32} {h : aH} {r : Int32} {h' : aH} (H : f_X11_octetAt x0 x1 h = some (r, h')) : Mx Γ gX11_octetAt d [.ref x0, .int x1] h (some (.int r)) h' := by
  refine Mx.of (by decide +kernel) (Nat.le_of_ble_eq_true rfl) ?_
  unfold f_X11_octetAt at H
  show Ex Γ gX11_octetAt d 0 [(0, .ref x0), (1, .int x1)] [] h (some (.int r)) h'
  obtain ⟨d, rfl⟩ : ∃ e, d = e + 1 := ⟨d - 1, by omega⟩
  refine x_aload_n dX11_octetAt_0 rfl 0 rfl ?_
  obtain ⟨c1, H⟩ := ko_o H
  refine x_getI fr_X11_89 dX11_octetAt_1 c1 rfl ?_
  refine x_if_eq (tgt := 33) dX11_octetAt_4 (by decide) (fun c2 => ?_) (fun c2 => ?_)
  · replace H := ite_p H c2
    refine Ex.sub [] rfl ?_
    exact t_X11_octetAt_33 hd H
  · replace H := ite_m H c2
    refine x_iload_n dX11_octetAt_7 rfl 1 rfl ?_
    refine x_if_lt (tgt := 33) dX11_octetAt_8 (by decide) (fun c3 => ?_) (fun c3 => ?_)
    · replace H := ite_p H c3
      refine Ex.sub [] rfl ?_
      exact t_X11_octetAt_33 hd H
    · replace H := ite_m H c3
      refine x_iload_n dX11_octetAt_11 rfl 1 rfl ?_
      refine x_aload_n dX11_octetAt_12 rfl 0 rfl ?_
      obtain ⟨a4, c5, H⟩ := kr_o H
      refine x_getR fr_X11_73 dX11_octetAt_13 c1 rfl c5 ?_
      obtain ⟨c6, H⟩ := ko_o H
      refine x_getI fr_X11_160 dX11_octetAt_16 c6 rfl ?_
      refine x_icmp_ge (tgt := 33) dX11_octetAt_19 (by decide) (fun c7 => ?_) (fun c7 => ?_)
      · replace H := ite_p H c7
        refine Ex.sub [] rfl ?_
        exact t_X11_octetAt_33 hd H
      · replace H := ite_m H c7
        refine x_aload_n dX11_octetAt_22 rfl 0 rfl ?_
        obtain ⟨a8, c9, H⟩ := kr_o H
        refine x_getR fr_X11_20 dX11_octetAt_23 c1 rfl c9 ?_
        refine x_iload_n dX11_octetAt_26 rfl 1 rfl ?_
        obtain ⟨c13, H⟩ := ko_o H
        obtain ⟨v10, h11, hc12, H⟩ := bd_o H
        refine x_callVi (As := [.int x1]) (q := (RX9, TX9, 8)) dX11_octetAt_27 mi_X9_byteAt lk_X11_231 im_X9_byteAt se_X9_byteAt rfl c13 rfl rfl (Nat.le_of_ble_eq_true rfl) (t_X9_byteAt (by omega) hc12) ?_
        refine x_goto (tgt := 34) dX11_octetAt_30 (by decide) ?_
        refine Ex.sub [] rfl ?_
        exact t_X11_octetAt_34 hd H
def f_X11_kept_24 (h : aH) : Option (Int32 × aH) :=
  some ((-1), h)
set_option maxRecDepth 100000 in
set_option maxHeartbeats 4000000 in
theorem t_X11_kept_24 {Γ : gS} {d : Nat} (hd : 0 ≤ d) {h : aH} {r : Int32} {h' : aH} (H : f_X11_kept_24 h = some (r, h')) : Ex Γ gX11_kept d 24 [] [] h (some (.int r)) h' := by
  unfold f_X11_kept_24 at H
  refine x_iconst (v := (-1)) dX11_kept_24 (by decide) ?_
  obtain ⟨rfl, rfl⟩ := so_1 H
  exact x_iret dX11_kept_25 rfl rfl
def f_X11_kept (x0 : Nat) (x1 : Int32) (x2 : Int32) (h : aH) : Option (Int32 × aH) :=
  if x1 < 0 then
    f_X11_kept_24 h
  else
    ko h x0 10 <|
    kr (hR h x0 2) fun a3 =>
    ko h a3 9 <|
    if (hI h a3 7) ≤ x1 then
      f_X11_kept_24 h
    else
      if x2 < 0 then
        f_X11_kept_24 h
      else
        if x2 < 3 then
          kr (hR h a3 4) fun a9 =>
          ka h a9 .int fun n12 =>
          chk (inb ((x1 * 3) + x2) n12 = true) <|
          some (hI h a9 ((x1 * 3) + x2 : Int32).toNatClampNeg, h)
        else
          f_X11_kept_24 h
set_option maxRecDepth 100000 in
set_option maxHeartbeats 4000000 in
theorem t_X11_kept {Γ : gS} {d : Nat} (hd : 0 ≤ d) {x0 : Nat} {x1 : Int32} {x2 : Int32} {h : aH} {r : Int32} {h' : aH} (H : f_X11_kept x0 x1 x2 h = some (r, h')) : Mx Γ gX11_kept d [.ref x0, .int x1, .int x2] h (some (.int r)) h' := by
  refine Mx.of (by decide +kernel) (Nat.le_of_ble_eq_true rfl) ?_
  unfold f_X11_kept at H
  show Ex Γ gX11_kept d 0 [(0, .ref x0), (1, .int x1), (2, .int x2)] [] h (some (.int r)) h'
  refine x_iload_n dX11_kept_0 rfl 1 rfl ?_
  refine x_if_lt (tgt := 24) dX11_kept_1 (by decide) (fun c1 => ?_) (fun c1 => ?_)
  · replace H := ite_p H c1
    refine Ex.sub [] rfl ?_
    exact t_X11_kept_24 hd H
  · replace H := ite_m H c1
    refine x_iload_n dX11_kept_4 rfl 1 rfl ?_
    refine x_aload_n dX11_kept_5 rfl 0 rfl ?_
    obtain ⟨c2, H⟩ := ko_o H
    obtain ⟨a3, c4, H⟩ := kr_o H
    refine x_getR fr_X11_20 dX11_kept_6 c2 rfl c4 ?_
    obtain ⟨c5, H⟩ := ko_o H
    refine x_getI fr_X11_178 dX11_kept_9 c5 rfl ?_
    refine x_icmp_ge (tgt := 24) dX11_kept_12 (by decide) (fun c6 => ?_) (fun c6 => ?_)
    · replace H := ite_p H c6
      refine Ex.sub [] rfl ?_
      exact t_X11_kept_24 hd H
    · replace H := ite_m H c6
      refine x_iload_n dX11_kept_15 rfl 2 rfl ?_
      refine x_if_lt (tgt := 24) dX11_kept_16 (by decide) (fun c7 => ?_) (fun c7 => ?_)
      · replace H := ite_p H c7
        refine Ex.sub [] rfl ?_
        exact t_X11_kept_24 hd H
      · replace H := ite_m H c7
        refine x_iload_n dX11_kept_19 rfl 2 rfl ?_
        refine x_iconst (v := 3) dX11_kept_20 (by decide) ?_
        refine x_icmp_lt (tgt := 26) dX11_kept_21 (by decide) (fun c8 => ?_) (fun c8 => ?_)
        · replace H := ite_p H c8
          refine x_aload_n dX11_kept_26 rfl 0 rfl ?_
          refine x_getR fr_X11_20 dX11_kept_27 c2 rfl c4 ?_
          obtain ⟨a9, c10, H⟩ := kr_o H
          refine x_getR fr_X11_234 dX11_kept_30 c5 rfl c10 ?_
          refine x_iload_n dX11_kept_33 rfl 1 rfl ?_
          refine x_iconst (v := 3) dX11_kept_34 (by decide) ?_
          refine x_imul dX11_kept_35 ?_
          refine x_iload_n dX11_kept_36 rfl 2 rfl ?_
          refine x_iadd dX11_kept_37 ?_
          obtain ⟨n12, c11, H⟩ := ka_o H
          obtain ⟨c13, H⟩ := chk_o H
          refine x_iald dX11_kept_38 c11 (inb_in.mp c13) ?_
          obtain ⟨rfl, rfl⟩ := so_1 H
          exact x_iret dX11_kept_39 rfl rfl
        · replace H := ite_m H c8
          refine Ex.sub [] rfl ?_
          exact t_X11_kept_24 hd H
def f_X11_areBounds_29 (s0 : Int32) (h : aH) : Option (Int32 × aH) :=
  chk (narrow .boolean (.int s0) = .int s0) <|
  some (s0, h)
set_option maxRecDepth 100000 in
set_option maxHeartbeats 4000000 in
theorem t_X11_areBounds_29 {Γ : gS} {d : Nat} (hd : 0 ≤ d) {s0 : Int32} {h : aH} {r : Int32} {h' : aH} (H : f_X11_areBounds_29 s0 h = some (r, h')) : Ex Γ gX11_areBounds d 29 [] [.int s0] h (some (.int r)) h' := by
  unfold f_X11_areBounds_29 at H
  obtain ⟨c1, H⟩ := chk_o H
  obtain ⟨rfl, rfl⟩ := so_1 H
  exact x_iret dX11_areBounds_29 rfl c1
def f_X11_areBounds_28 (h : aH) : Option (Int32 × aH) :=
  f_X11_areBounds_29 0 h
set_option maxRecDepth 100000 in
set_option maxHeartbeats 4000000 in
theorem t_X11_areBounds_28 {Γ : gS} {d : Nat} (hd : 0 ≤ d) {h : aH} {r : Int32} {h' : aH} (H : f_X11_areBounds_28 h = some (r, h')) : Ex Γ gX11_areBounds d 28 [] [] h (some (.int r)) h' := by
  unfold f_X11_areBounds_28 at H
  refine x_iconst (v := 0) dX11_areBounds_28 (by decide) ?_
  exact t_X11_areBounds_29 hd H
def f_X11_areBounds (x0 : Int32) (x1 : Int32) (h : aH) : Option (Int32 × aH) :=
  if x0 < 0 then
    f_X11_areBounds_28 h
  else
    if 4096 < x0 then
      f_X11_areBounds_28 h
    else
      if x1 < 0 then
        f_X11_areBounds_28 h
      else
        if (4096 - x0) < x1 then
          f_X11_areBounds_28 h
        else
          f_X11_areBounds_29 1 h
set_option maxRecDepth 100000 in
set_option maxHeartbeats 4000000 in
theorem t_X11_areBounds {Γ : gS} {d : Nat} (hd : 0 ≤ d) {x0 : Int32} {x1 : Int32} {h : aH} {r : Int32} {h' : aH} (H : f_X11_areBounds x0 x1 h = some (r, h')) : Mx Γ gX11_areBounds d [.int x0, .int x1] h (some (.int r)) h' := by
  refine Mx.of (by decide +kernel) (Nat.le_of_ble_eq_true rfl) ?_
  unfold f_X11_areBounds at H
  show Ex Γ gX11_areBounds d 0 [(0, .int x0), (1, .int x1)] [] h (some (.int r)) h'
  refine x_iload_n dX11_areBounds_0 rfl 0 rfl ?_
  refine x_if_lt (tgt := 28) dX11_areBounds_1 (by decide) (fun c2 => ?_) (fun c2 => ?_)
  · replace H := ite_p H c2
    refine Ex.sub [] rfl ?_
    exact t_X11_areBounds_28 hd H
  · replace H := ite_m H c2
    refine x_iload_n dX11_areBounds_4 rfl 0 rfl ?_
    refine x_sipush (v := 4096) dX11_areBounds_5 (by decide) ?_
    refine x_icmp_gt (tgt := 28) dX11_areBounds_8 (by decide) (fun c3 => ?_) (fun c3 => ?_)
    · replace H := ite_p H c3
      refine Ex.sub [] rfl ?_
      exact t_X11_areBounds_28 hd H
    · replace H := ite_m H c3
      refine x_iload_n dX11_areBounds_11 rfl 1 rfl ?_
      refine x_if_lt (tgt := 28) dX11_areBounds_12 (by decide) (fun c4 => ?_) (fun c4 => ?_)
      · replace H := ite_p H c4
        refine Ex.sub [] rfl ?_
        exact t_X11_areBounds_28 hd H
      · replace H := ite_m H c4
        refine x_iload_n dX11_areBounds_15 rfl 1 rfl ?_
        refine x_sipush (v := 4096) dX11_areBounds_16 (by decide) ?_
        refine x_iload_n dX11_areBounds_19 rfl 0 rfl ?_
        refine x_isub dX11_areBounds_20 ?_
        refine x_icmp_gt (tgt := 28) dX11_areBounds_21 (by decide) (fun c5 => ?_) (fun c5 => ?_)
        · replace H := ite_p H c5
          refine Ex.sub [] rfl ?_
          exact t_X11_areBounds_28 hd H
        · replace H := ite_m H c5
          refine x_iconst (v := 1) dX11_areBounds_24 (by decide) ?_
          refine x_goto (tgt := 29) dX11_areBounds_25 (by decide) ?_
          refine Ex.sub [] rfl ?_
          exact t_X11_areBounds_29 hd H
def f_X11_rounds_15 (h : aH) : Option (Int32 × aH) :=
  some ((-1), h)
set_option maxRecDepth 100000 in
set_option maxHeartbeats 4000000 in
theorem t_X11_rounds_15 {Γ : gS} {d : Nat} (hd : 4 ≤ d) {h : aH} {r : Int32} {h' : aH} (H : f_X11_rounds_15 h = some (r, h')) : Ex Γ gX11_rounds d 15 [] [] h (some (.int r)) h' := by
  unfold f_X11_rounds_15 at H
  obtain ⟨d, rfl⟩ : ∃ e, d = e + 1 := ⟨d - 1, by omega⟩
  refine x_iconst (v := (-1)) dX11_rounds_15 (by decide) ?_
  obtain ⟨rfl, rfl⟩ := so_1 H
  exact x_iret dX11_rounds_16 rfl rfl
def f_X11_rounds_117 (h : aH) : Option (Int32 × aH) :=
  some ((-1), h)
set_option maxRecDepth 100000 in
set_option maxHeartbeats 4000000 in
theorem t_X11_rounds_117 {Γ : gS} {d : Nat} (hd : 4 ≤ d) {h : aH} {r : Int32} {h' : aH} (H : f_X11_rounds_117 h = some (r, h')) : Ex Γ gX11_rounds d 117 [] [] h (some (.int r)) h' := by
  unfold f_X11_rounds_117 at H
  obtain ⟨d, rfl⟩ : ∃ e, d = e + 1 := ⟨d - 1, by omega⟩
  refine x_iconst (v := (-1)) dX11_rounds_117 (by decide) ?_
  obtain ⟨rfl, rfl⟩ := so_1 H
  exact x_iret dX11_rounds_118 rfl rfl
def f_X11_rounds_116 (s0 : Int32) (h : aH) : Option (Int32 × aH) :=
  some (s0, h)
set_option maxRecDepth 100000 in
set_option maxHeartbeats 4000000 in
theorem t_X11_rounds_116 {Γ : gS} {d : Nat} (hd : 4 ≤ d) {s0 : Int32} {h : aH} {r : Int32} {h' : aH} (H : f_X11_rounds_116 s0 h = some (r, h')) : Ex Γ gX11_rounds d 116 [] [.int s0] h (some (.int r)) h' := by
  unfold f_X11_rounds_116 at H
  obtain ⟨d, rfl⟩ : ∃ e, d = e + 1 := ⟨d - 1, by omega⟩
  obtain ⟨rfl, rfl⟩ := so_1 H
  exact x_iret dX11_rounds_116 rfl rfl
def f_X11_rounds (x0 : Nat) (x1 : Int32) (x2 : Int32) (x3 : Int32) (h : aH) : Option (Int32 × aH) :=
  ko h x0 10 <|
  if (hI h x0 12) = 0 then
    f_X11_rounds_15 h
  else
    bd (f_X11_areBounds x1 x2 h) fun v3 h4 =>
    if v3 = 0 then
      f_X11_rounds_15 h4
    else
      ko h4 x0 10 <|
      kr (hR h4 x0 9) fun a8 =>
      ko h4 a8 4 <|
      bd (f_X6_leastExponent x1 (x1 + x2) (hI h4 a8 2) h4) fun v11 h12 =>
      bd (f_X6_down x1 v11 h12) fun v14 h15 =>
      bd (f_X6_up (x1 + x2) v11 h15) fun v17 h18 =>
      if x3 < 0 then
        f_X11_rounds_117 h18
      else
      if 3 < x3 then
        f_X11_rounds_117 h18
      else
      if x3 = 0 then
        some (v11, h18)
      else
      if x3 = 1 then
        some (v14, h18)
      else
      if x3 = 2 then
        some (v17 - v14, h18)
      else
      if x3 = 3 then
        ko h18 x0 10 <|
        kr (hR h18 x0 9) fun a27 =>
        ko h18 a27 4 <|
        bd (f_X6_staysAsAsked x1 x2 (hI h18 a27 2) h18) fun v30 h31 =>
        if v30 = 0 then
          f_X11_rounds_116 0 h31
        else
          f_X11_rounds_116 1 h31
      else
      none
set_option maxRecDepth 100000 in
set_option maxHeartbeats 4000000 in
theorem t_X11_rounds {Γ : gS} {d : Nat} (hd : 4 ≤ d) {x0 : Nat} {x1 : Int32} {x2 : Int32} {x3 : Int32} {h : aH} {r : Int32} {h' : aH} (H : f_X11_rounds x0 x1 x2 x3 h = some (r, h')) : Mx Γ gX11_rounds d [.ref x0, .int x1, .int x2, .int x3] h (some (.int r)) h' := by
  refine Mx.of (by decide +kernel) (Nat.le_of_ble_eq_true rfl) ?_
  unfold f_X11_rounds at H
  show Ex Γ gX11_rounds d 0 [(0, .ref x0), (1, .int x1), (2, .int x2), (3, .int x3)] [] h (some (.int r)) h'
  obtain ⟨d, rfl⟩ : ∃ e, d = e + 1 := ⟨d - 1, by omega⟩
  refine x_aload_n dX11_rounds_0 rfl 0 rfl ?_
  obtain ⟨c1, H⟩ := ko_o H
  refine x_getI fr_X11_89 dX11_rounds_1 c1 rfl ?_
  refine x_if_eq (tgt := 15) dX11_rounds_4 (by decide) (fun c2 => ?_) (fun c2 => ?_)
  · replace H := ite_p H c2
    refine Ex.sub [] rfl ?_
    exact t_X11_rounds_15 hd H
  · replace H := ite_m H c2
    refine x_iload_n dX11_rounds_7 rfl 1 rfl ?_
    refine x_iload_n dX11_rounds_8 rfl 2 rfl ?_
    obtain ⟨v3, h4, hc5, H⟩ := bd_o H
    refine x_callSi (As := [.int x1, .int x2]) dX11_rounds_9 mi_X11_areBounds lk_X11_237 sm_X11_areBounds rfl rfl (Nat.le_of_ble_eq_true rfl) (t_X11_areBounds (by omega) hc5) ?_
    refine x_if_ne (tgt := 17) dX11_rounds_12 (by decide) (fun c6 => ?_) (fun c6 => ?_)
    · replace H := ite_m H c6
      refine x_iload_n dX11_rounds_17 rfl 1 rfl ?_
      refine x_iload_n dX11_rounds_18 rfl 1 rfl ?_
      refine x_iload_n dX11_rounds_19 rfl 2 rfl ?_
      refine x_iadd dX11_rounds_20 ?_
      refine x_aload_n dX11_rounds_21 rfl 0 rfl ?_
      obtain ⟨c7, H⟩ := ko_o H
      obtain ⟨a8, c9, H⟩ := kr_o H
      refine x_getR fr_X11_73 dX11_rounds_22 c7 rfl c9 ?_
      obtain ⟨c10, H⟩ := ko_o H
      refine x_getI fr_X11_151 dX11_rounds_25 c10 rfl ?_
      obtain ⟨v11, h12, hc13, H⟩ := bd_o H
      refine x_callSi (As := [.int x1, .int (x1 + x2), .int (hI h4 a8 2)]) dX11_rounds_28 mi_X6_leastExponent lk_X11_240 sm_X6_leastExponent rfl rfl (Nat.le_of_ble_eq_true rfl) (t_X6_leastExponent (by omega) hc13) ?_
      refine x_istore (lv' := [(4, .int v11), (0, .ref x0), (1, .int x1), (2, .int x2), (3, .int x3)]) dX11_rounds_31 (by decide) rfl rfl ?_
      refine x_iload_n dX11_rounds_33 rfl 2 rfl ?_
      refine x_iload dX11_rounds_34 0 rfl ?_
      obtain ⟨v14, h15, hc16, H⟩ := bd_o H
      refine x_callSi (As := [.int x1, .int v11]) dX11_rounds_36 mi_X6_down lk_X11_244 sm_X6_down rfl rfl (Nat.le_of_ble_eq_true rfl) (t_X6_down (by omega) hc16) ?_
      refine x_istore (lv' := [(5, .int v14), (4, .int v11), (0, .ref x0), (1, .int x1), (2, .int x2), (3, .int x3)]) dX11_rounds_39 (by decide) rfl rfl ?_
      refine x_iload_n dX11_rounds_41 rfl 3 rfl ?_
      refine x_iload_n dX11_rounds_42 rfl 4 rfl ?_
      refine x_iadd dX11_rounds_43 ?_
      refine x_iload dX11_rounds_44 1 rfl ?_
      obtain ⟨v17, h18, hc19, H⟩ := bd_o H
      refine x_callSi (As := [.int (x1 + x2), .int v11]) dX11_rounds_46 mi_X6_up lk_X11_247 sm_X6_up rfl rfl (Nat.le_of_ble_eq_true rfl) (t_X6_up (by omega) hc19) ?_
      refine x_istore (lv' := [(6, .int v17), (5, .int v14), (4, .int v11), (0, .ref x0), (1, .int x1), (2, .int x2), (3, .int x3)]) dX11_rounds_49 (by decide) rfl rfl ?_
      refine x_iload_n dX11_rounds_51 rfl 6 rfl ?_
      by_cases c20 : x3 < 0
      · replace H := ite_p H c20
        refine x_tableOut (tgt := 117) dX11_rounds_52 (Or.inl (sw_lo c20 (by decide))) (by decide) ?_
        refine Ex.sub [] rfl ?_
        exact t_X11_rounds_117 hd H
      replace H := ite_m H c20
      by_cases c21 : 3 < x3
      · replace H := ite_p H c21
        refine x_tableOut (tgt := 117) dX11_rounds_52 (Or.inr (sw_hi c21 (by decide))) (by decide) ?_
        refine Ex.sub [] rfl ?_
        exact t_X11_rounds_117 hd H
      replace H := ite_m H c21
      by_cases c22 : x3 = 0
      · replace H := ite_p H c22
        refine x_tableIn (tgt := 84) dX11_rounds_52 (by rw [c22]; decide) (by rw [c22]; decide) (by rw [c22]; rfl) (by decide) ?_
        refine x_iload dX11_rounds_84 2 rfl ?_
        obtain ⟨rfl, rfl⟩ := so_1 H
        exact x_iret dX11_rounds_86 rfl rfl
      replace H := ite_m H c22
      by_cases c23 : x3 = 1
      · replace H := ite_p H c23
        refine x_tableIn (tgt := 87) dX11_rounds_52 (by rw [c23]; decide) (by rw [c23]; decide) (by rw [c23]; rfl) (by decide) ?_
        refine x_iload dX11_rounds_87 1 rfl ?_
        obtain ⟨rfl, rfl⟩ := so_1 H
        exact x_iret dX11_rounds_89 rfl rfl
      replace H := ite_m H c23
      by_cases c24 : x3 = 2
      · replace H := ite_p H c24
        refine x_tableIn (tgt := 90) dX11_rounds_52 (by rw [c24]; decide) (by rw [c24]; decide) (by rw [c24]; rfl) (by decide) ?_
        refine x_iload dX11_rounds_90 0 rfl ?_
        refine x_iload dX11_rounds_92 1 rfl ?_
        refine x_isub dX11_rounds_94 ?_
        obtain ⟨rfl, rfl⟩ := so_1 H
        exact x_iret dX11_rounds_95 rfl rfl
      replace H := ite_m H c24
      by_cases c25 : x3 = 3
      · replace H := ite_p H c25
        refine x_tableIn (tgt := 96) dX11_rounds_52 (by rw [c25]; decide) (by rw [c25]; decide) (by rw [c25]; rfl) (by decide) ?_
        refine x_iload_n dX11_rounds_96 rfl 4 rfl ?_
        refine x_iload_n dX11_rounds_97 rfl 5 rfl ?_
        refine x_aload_n dX11_rounds_98 rfl 3 rfl ?_
        obtain ⟨c26, H⟩ := ko_o H
        obtain ⟨a27, c28, H⟩ := kr_o H
        refine x_getR fr_X11_73 dX11_rounds_99 c26 rfl c28 ?_
        obtain ⟨c29, H⟩ := ko_o H
        refine x_getI fr_X11_151 dX11_rounds_102 c29 rfl ?_
        obtain ⟨v30, h31, hc32, H⟩ := bd_o H
        refine x_callSi (As := [.int x1, .int x2, .int (hI h18 a27 2)]) dX11_rounds_105 mi_X6_staysAsAsked lk_X11_250 sm_X6_staysAsAsked rfl rfl (Nat.le_of_ble_eq_true rfl) (t_X6_staysAsAsked (by omega) hc32) ?_
        refine x_if_eq (tgt := 115) dX11_rounds_108 (by decide) (fun c33 => ?_) (fun c33 => ?_)
        · replace H := ite_p H c33
          refine x_iconst (v := 0) dX11_rounds_115 (by decide) ?_
          refine Ex.sub [] rfl ?_
          exact t_X11_rounds_116 hd H
        · replace H := ite_m H c33
          refine x_iconst (v := 1) dX11_rounds_111 (by decide) ?_
          refine x_goto (tgt := 116) dX11_rounds_112 (by decide) ?_
          refine Ex.sub [] rfl ?_
          exact t_X11_rounds_116 hd H
      replace H := ite_m H c25
      cases H
    · replace H := ite_p H c6
      refine Ex.sub [] rfl ?_
      exact t_X11_rounds_15 hd H
def b_X11_exact_12 (k12 : Int32 → Int32 → Int32 → aH → Option (Int32 × aH)) (x1 : Int32) (x2 : Int32) (x3 : Int32) (h : aH) : Option (Int32 × aH) :=
  if 8 < x3 then
    some ((-1), h)
  else
    bd (f_X6_staysAsAsked x1 x2 x3 h) fun v2 h3 =>
    if v2 = 0 then
      nm (x3 + 1) fun (v6 : Int32) =>
      k12 x1 x2 v6 h3
    else
      some (x3, h3)
set_option maxRecDepth 100000 in
set_option maxHeartbeats 4000000 in
theorem tb_X11_exact_12 {Γ : gS} {d : Nat} (hd : 4 ≤ d) {k12 : Int32 → Int32 → Int32 → aH → Option (Int32 × aH)} (hk12 : ∀ {x1 : Int32} {x2 : Int32} {x3 : Int32} {h : aH} {r : Int32} {h' : aH}, k12 x1 x2 x3 h = some (r, h') → Ex Γ gX11_exact d 12 [(1, .int x1), (2, .int x2), (3, .int x3)] [] h (some (.int r)) h') {x1 : Int32} {x2 : Int32} {x3 : Int32} {h : aH} {r : Int32} {h' : aH} (H : b_X11_exact_12 k12 x1 x2 x3 h = some (r, h')) : Ex Γ gX11_exact d 12 [(1, .int x1), (2, .int x2), (3, .int x3)] [] h (some (.int r)) h' := by
  unfold b_X11_exact_12 at H
  obtain ⟨d, rfl⟩ : ∃ e, d = e + 1 := ⟨d - 1, by omega⟩
  refine x_iload_n dX11_exact_12 rfl 2 rfl ?_
  refine x_bipush (v := 8) dX11_exact_13 (by decide) ?_
  refine x_icmp_gt (tgt := 35) dX11_exact_15 (by decide) (fun c1 => ?_) (fun c1 => ?_)
  · replace H := ite_p H c1
    refine x_iconst (v := (-1)) dX11_exact_35 (by decide) ?_
    obtain ⟨rfl, rfl⟩ := so_1 H
    exact x_iret dX11_exact_36 rfl rfl
  · replace H := ite_m H c1
    refine x_iload_n dX11_exact_18 rfl 0 rfl ?_
    refine x_iload_n dX11_exact_19 rfl 1 rfl ?_
    refine x_iload_n dX11_exact_20 rfl 2 rfl ?_
    obtain ⟨v2, h3, hc4, H⟩ := bd_o H
    refine x_callSi (As := [.int x1, .int x2, .int x3]) dX11_exact_21 mi_X6_staysAsAsked lk_X11_250 sm_X6_staysAsAsked rfl rfl (Nat.le_of_ble_eq_true rfl) (t_X6_staysAsAsked (by omega) hc4) ?_
    refine x_if_eq (tgt := 29) dX11_exact_24 (by decide) (fun c5 => ?_) (fun c5 => ?_)
    · replace H := ite_p H c5
      obtain ⟨v6, ev6, H⟩ := nm_o H
      refine x_iinc (v := v6) (lv' := [(3, .int v6), (1, .int x1), (2, .int x2)]) dX11_exact_29 2 rfl (by decide) ev6 rfl ?_
      refine x_goto (tgt := 12) dX11_exact_32 (by decide) ?_
      refine Ex.sub [1, 2, 0] rfl ?_
      exact hk12 H
    · replace H := ite_m H c5
      refine x_iload_n dX11_exact_27 rfl 2 rfl ?_
      obtain ⟨rfl, rfl⟩ := so_1 H
      exact x_iret dX11_exact_28 rfl rfl
def f_X11_exact_12 : Nat → Int32 → Int32 → Int32 → aH → Option (Int32 × aH)
  | 0 => fun _ _ _ _ => none
  | n + 1 => b_X11_exact_12 (f_X11_exact_12 n)
set_option maxRecDepth 100000 in
set_option maxHeartbeats 4000000 in
theorem t_X11_exact_12 {Γ : gS} {d : Nat} (hd : 4 ≤ d) (n : Nat) : ∀ {x1 : Int32} {x2 : Int32} {x3 : Int32} {h : aH} {r : Int32} {h' : aH}, f_X11_exact_12 n x1 x2 x3 h = some (r, h') → Ex Γ gX11_exact d 12 [(1, .int x1), (2, .int x2), (3, .int x3)] [] h (some (.int r)) h' := by
  induction n with
  | zero => intro x1 x2 x3 h r h' H; cases H
  | succ n ih => intro x1 x2 x3 h r h' H; exact tb_X11_exact_12 hd ih H
def f_X11_exact (x0 : Nat) (x1 : Int32) (x2 : Int32) (h : aH) : Option (Int32 × aH) :=
  bd (f_X11_areBounds x1 x2 h) fun v7 h8 =>
  if v7 = 0 then
    some ((-1), h8)
  else
    f_X11_exact_12 FU x1 x2 4 h8
set_option maxRecDepth 100000 in
set_option maxHeartbeats 4000000 in
theorem t_X11_exact {Γ : gS} {d : Nat} (hd : 4 ≤ d) {x0 : Nat} {x1 : Int32} {x2 : Int32} {h : aH} {r : Int32} {h' : aH} (H : f_X11_exact x0 x1 x2 h = some (r, h')) : Mx Γ gX11_exact d [.ref x0, .int x1, .int x2] h (some (.int r)) h' := by
  refine Mx.of (by decide +kernel) (Nat.le_of_ble_eq_true rfl) ?_
  unfold f_X11_exact at H
  show Ex Γ gX11_exact d 0 [(0, .ref x0), (1, .int x1), (2, .int x2)] [] h (some (.int r)) h'
  obtain ⟨d, rfl⟩ : ∃ e, d = e + 1 := ⟨d - 1, by omega⟩
  refine x_iload_n dX11_exact_0 rfl 1 rfl ?_
  refine x_iload_n dX11_exact_1 rfl 2 rfl ?_
  obtain ⟨v7, h8, hc9, H⟩ := bd_o H
  refine x_callSi (As := [.int x1, .int x2]) dX11_exact_2 mi_X11_areBounds lk_X11_237 sm_X11_areBounds rfl rfl (Nat.le_of_ble_eq_true rfl) (t_X11_areBounds (by omega) hc9) ?_
  refine x_if_ne (tgt := 10) dX11_exact_5 (by decide) (fun c10 => ?_) (fun c10 => ?_)
  · replace H := ite_m H c10
    refine x_iconst (v := 4) dX11_exact_10 (by decide) ?_
    refine x_istore_n (lv' := [(3, .int 4), (0, .ref x0), (1, .int x1), (2, .int x2)]) dX11_exact_11 rfl (by decide) rfl rfl ?_
    refine Ex.sub [2, 3, 0] rfl ?_
    exact t_X11_exact_12 hd FU H
  · replace H := ite_p H c10
    refine x_iconst (v := (-1)) dX11_exact_8 (by decide) ?_
    obtain ⟨rfl, rfl⟩ := so_1 H
    exact x_iret dX11_exact_9 rfl rfl
def f_X11_fits_15 (h : aH) : Option (Int32 × aH) :=
  some ((-1), h)
set_option maxRecDepth 100000 in
set_option maxHeartbeats 4000000 in
theorem t_X11_fits_15 {Γ : gS} {d : Nat} (hd : 2 ≤ d) {h : aH} {r : Int32} {h' : aH} (H : f_X11_fits_15 h = some (r, h')) : Ex Γ gX11_fits d 15 [] [] h (some (.int r)) h' := by
  unfold f_X11_fits_15 at H
  obtain ⟨d, rfl⟩ : ∃ e, d = e + 1 := ⟨d - 1, by omega⟩
  refine x_iconst (v := (-1)) dX11_fits_15 (by decide) ?_
  obtain ⟨rfl, rfl⟩ := so_1 H
  exact x_iret dX11_fits_16 rfl rfl
def f_X11_fits_45 (s0 : Int32) (h : aH) : Option (Int32 × aH) :=
  some (s0, h)
set_option maxRecDepth 100000 in
set_option maxHeartbeats 4000000 in
theorem t_X11_fits_45 {Γ : gS} {d : Nat} (hd : 2 ≤ d) {s0 : Int32} {h : aH} {r : Int32} {h' : aH} (H : f_X11_fits_45 s0 h = some (r, h')) : Ex Γ gX11_fits d 45 [] [.int s0] h (some (.int r)) h' := by
  unfold f_X11_fits_45 at H
  obtain ⟨d, rfl⟩ : ∃ e, d = e + 1 := ⟨d - 1, by omega⟩
  obtain ⟨rfl, rfl⟩ := so_1 H
  exact x_iret dX11_fits_45 rfl rfl
def f_X11_fits (x0 : Nat) (x1 : Int32) (x2 : Int32) (h : aH) : Option (Int32 × aH) :=
  ko h x0 10 <|
  bd (f_X11_isPointer x0 x1 h) fun v1 h2 =>
  if v1 = 0 then
    f_X11_fits_15 h2
  else
    bd (f_X11_isStep x2 h2) fun v5 h6 =>
    if v5 = 0 then
      f_X11_fits_15 h6
    else
      ko h6 x0 10 <|
      kr (hR h6 x0 2) fun a10 =>
      ko h6 a10 9 <|
      kr (hR h6 a10 0) fun a13 =>
      ka h6 a13 (.object RX6) fun n16 =>
      chk (inb x1 n16 = true) <|
      kr (hR h6 a13 x1.toNatClampNeg) fun a18 =>
      kr (hR h6 x0 9) fun a20 =>
      ko h6 a20 4 <|
      ko h6 a18 6 <|
      bd (f_X6_keepsBounds a18 x2 (hI h6 a20 2) h6) fun v23 h24 =>
      if v23 = 0 then
        f_X11_fits_45 0 h24
      else
        f_X11_fits_45 1 h24
set_option maxRecDepth 100000 in
set_option maxHeartbeats 4000000 in
theorem t_X11_fits {Γ : gS} {d : Nat} (hd : 2 ≤ d) {x0 : Nat} {x1 : Int32} {x2 : Int32} {h : aH} {r : Int32} {h' : aH} (H : f_X11_fits x0 x1 x2 h = some (r, h')) : Mx Γ gX11_fits d [.ref x0, .int x1, .int x2] h (some (.int r)) h' := by
  refine Mx.of (by decide +kernel) (Nat.le_of_ble_eq_true rfl) ?_
  unfold f_X11_fits at H
  show Ex Γ gX11_fits d 0 [(0, .ref x0), (1, .int x1), (2, .int x2)] [] h (some (.int r)) h'
  obtain ⟨d, rfl⟩ : ∃ e, d = e + 1 := ⟨d - 1, by omega⟩
  refine x_aload_n dX11_fits_0 rfl 0 rfl ?_
  refine x_iload_n dX11_fits_1 rfl 1 rfl ?_
  obtain ⟨c28, H⟩ := ko_o H
  obtain ⟨v1, h2, hc3, H⟩ := bd_o H
  refine x_callVi (As := [.int x1]) (q := (RX11, TX11, 17)) dX11_fits_2 mi_X11_isPointer lk_X11_196 im_X11_isPointer se_X11_isPointer rfl c28 rfl rfl (Nat.le_of_ble_eq_true rfl) (t_X11_isPointer (by omega) hc3) ?_
  refine x_if_eq (tgt := 15) dX11_fits_5 (by decide) (fun c4 => ?_) (fun c4 => ?_)
  · replace H := ite_p H c4
    refine Ex.sub [] rfl ?_
    exact t_X11_fits_15 hd H
  · replace H := ite_m H c4
    refine x_iload_n dX11_fits_8 rfl 2 rfl ?_
    obtain ⟨v5, h6, hc7, H⟩ := bd_o H
    refine x_callSi (As := [.int x2]) dX11_fits_9 mi_X11_isStep lk_X11_254 sm_X11_isStep rfl rfl (Nat.le_of_ble_eq_true rfl) (t_X11_isStep (by omega) hc7) ?_
    refine x_if_ne (tgt := 17) dX11_fits_12 (by decide) (fun c8 => ?_) (fun c8 => ?_)
    · replace H := ite_m H c8
      refine x_aload_n dX11_fits_17 rfl 0 rfl ?_
      obtain ⟨c9, H⟩ := ko_o H
      obtain ⟨a10, c11, H⟩ := kr_o H
      refine x_getR fr_X11_20 dX11_fits_18 c9 rfl c11 ?_
      obtain ⟨c12, H⟩ := ko_o H
      obtain ⟨a13, c14, H⟩ := kr_o H
      refine x_getR fr_X11_36 dX11_fits_21 c12 rfl c14 ?_
      refine x_iload_n dX11_fits_24 rfl 1 rfl ?_
      obtain ⟨n16, c15, H⟩ := ka_o H
      obtain ⟨c17, H⟩ := chk_o H
      obtain ⟨a18, c19, H⟩ := kr_o H
      refine x_aald dX11_fits_25 c15 (by decide) (inb_in.mp c17) c19 ?_
      refine x_iload_n dX11_fits_26 rfl 2 rfl ?_
      refine x_aload_n dX11_fits_27 rfl 0 rfl ?_
      obtain ⟨a20, c21, H⟩ := kr_o H
      refine x_getR fr_X11_73 dX11_fits_28 c9 rfl c21 ?_
      obtain ⟨c22, H⟩ := ko_o H
      refine x_getI fr_X11_151 dX11_fits_31 c22 rfl ?_
      obtain ⟨c27, H⟩ := ko_o H
      obtain ⟨v23, h24, hc25, H⟩ := bd_o H
      refine x_callVi (As := [.int x2, .int (hI h6 a20 2)]) (q := (RX6, TX6, 8)) dX11_fits_34 mi_X6_keepsBounds lk_X11_257 im_X6_keepsBounds se_X6_keepsBounds rfl c27 rfl rfl (Nat.le_of_ble_eq_true rfl) (t_X6_keepsBounds (by omega) hc25) ?_
      refine x_if_eq (tgt := 44) dX11_fits_37 (by decide) (fun c26 => ?_) (fun c26 => ?_)
      · replace H := ite_p H c26
        refine x_iconst (v := 0) dX11_fits_44 (by decide) ?_
        refine Ex.sub [] rfl ?_
        exact t_X11_fits_45 hd H
      · replace H := ite_m H c26
        refine x_iconst (v := 1) dX11_fits_40 (by decide) ?_
        refine x_goto (tgt := 45) dX11_fits_41 (by decide) ?_
        refine Ex.sub [] rfl ?_
        exact t_X11_fits_45 hd H
    · replace H := ite_p H c8
      refine Ex.sub [] rfl ?_
      exact t_X11_fits_15 hd H
def f_X11_quick_15 (h : aH) : Option (Int32 × aH) :=
  some ((-1), h)
set_option maxRecDepth 100000 in
set_option maxHeartbeats 4000000 in
theorem t_X11_quick_15 {Γ : gS} {d : Nat} (hd : 1 ≤ d) {h : aH} {r : Int32} {h' : aH} (H : f_X11_quick_15 h = some (r, h')) : Ex Γ gX11_quick d 15 [] [] h (some (.int r)) h' := by
  unfold f_X11_quick_15 at H
  obtain ⟨d, rfl⟩ : ∃ e, d = e + 1 := ⟨d - 1, by omega⟩
  refine x_iconst (v := (-1)) dX11_quick_15 (by decide) ?_
  obtain ⟨rfl, rfl⟩ := so_1 H
  exact x_iret dX11_quick_16 rfl rfl
def f_X11_quick_45 (s0 : Int32) (h : aH) : Option (Int32 × aH) :=
  some (s0, h)
set_option maxRecDepth 100000 in
set_option maxHeartbeats 4000000 in
theorem t_X11_quick_45 {Γ : gS} {d : Nat} (hd : 1 ≤ d) {s0 : Int32} {h : aH} {r : Int32} {h' : aH} (H : f_X11_quick_45 s0 h = some (r, h')) : Ex Γ gX11_quick d 45 [] [.int s0] h (some (.int r)) h' := by
  unfold f_X11_quick_45 at H
  obtain ⟨d, rfl⟩ : ∃ e, d = e + 1 := ⟨d - 1, by omega⟩
  obtain ⟨rfl, rfl⟩ := so_1 H
  exact x_iret dX11_quick_45 rfl rfl
def f_X11_quick (x0 : Nat) (x1 : Int32) (x2 : Int32) (h : aH) : Option (Int32 × aH) :=
  ko h x0 10 <|
  bd (f_X11_isPointer x0 x1 h) fun v1 h2 =>
  if v1 = 0 then
    f_X11_quick_15 h2
  else
    bd (f_X11_isStep x2 h2) fun v5 h6 =>
    if v5 = 0 then
      f_X11_quick_15 h6
    else
      ko h6 x0 10 <|
      kr (hR h6 x0 2) fun a10 =>
      ko h6 a10 9 <|
      kr (hR h6 a10 0) fun a13 =>
      ka h6 a13 (.object RX6) fun n16 =>
      chk (inb x1 n16 = true) <|
      kr (hR h6 a13 x1.toNatClampNeg) fun a18 =>
      kr (hR h6 x0 9) fun a20 =>
      ko h6 a20 4 <|
      ko h6 a18 6 <|
      bd (f_X6_isQuick a18 x2 (hI h6 a20 2) h6) fun v23 h24 =>
      if v23 = 0 then
        f_X11_quick_45 0 h24
      else
        f_X11_quick_45 1 h24
set_option maxRecDepth 100000 in
set_option maxHeartbeats 4000000 in
theorem t_X11_quick {Γ : gS} {d : Nat} (hd : 1 ≤ d) {x0 : Nat} {x1 : Int32} {x2 : Int32} {h : aH} {r : Int32} {h' : aH} (H : f_X11_quick x0 x1 x2 h = some (r, h')) : Mx Γ gX11_quick d [.ref x0, .int x1, .int x2] h (some (.int r)) h' := by
  refine Mx.of (by decide +kernel) (Nat.le_of_ble_eq_true rfl) ?_
  unfold f_X11_quick at H
  show Ex Γ gX11_quick d 0 [(0, .ref x0), (1, .int x1), (2, .int x2)] [] h (some (.int r)) h'
  obtain ⟨d, rfl⟩ : ∃ e, d = e + 1 := ⟨d - 1, by omega⟩
  refine x_aload_n dX11_quick_0 rfl 0 rfl ?_
  refine x_iload_n dX11_quick_1 rfl 1 rfl ?_
  obtain ⟨c28, H⟩ := ko_o H
  obtain ⟨v1, h2, hc3, H⟩ := bd_o H
  refine x_callVi (As := [.int x1]) (q := (RX11, TX11, 17)) dX11_quick_2 mi_X11_isPointer lk_X11_196 im_X11_isPointer se_X11_isPointer rfl c28 rfl rfl (Nat.le_of_ble_eq_true rfl) (t_X11_isPointer (by omega) hc3) ?_
  refine x_if_eq (tgt := 15) dX11_quick_5 (by decide) (fun c4 => ?_) (fun c4 => ?_)
  · replace H := ite_p H c4
    refine Ex.sub [] rfl ?_
    exact t_X11_quick_15 hd H
  · replace H := ite_m H c4
    refine x_iload_n dX11_quick_8 rfl 2 rfl ?_
    obtain ⟨v5, h6, hc7, H⟩ := bd_o H
    refine x_callSi (As := [.int x2]) dX11_quick_9 mi_X11_isStep lk_X11_254 sm_X11_isStep rfl rfl (Nat.le_of_ble_eq_true rfl) (t_X11_isStep (by omega) hc7) ?_
    refine x_if_ne (tgt := 17) dX11_quick_12 (by decide) (fun c8 => ?_) (fun c8 => ?_)
    · replace H := ite_m H c8
      refine x_aload_n dX11_quick_17 rfl 0 rfl ?_
      obtain ⟨c9, H⟩ := ko_o H
      obtain ⟨a10, c11, H⟩ := kr_o H
      refine x_getR fr_X11_20 dX11_quick_18 c9 rfl c11 ?_
      obtain ⟨c12, H⟩ := ko_o H
      obtain ⟨a13, c14, H⟩ := kr_o H
      refine x_getR fr_X11_36 dX11_quick_21 c12 rfl c14 ?_
      refine x_iload_n dX11_quick_24 rfl 1 rfl ?_
      obtain ⟨n16, c15, H⟩ := ka_o H
      obtain ⟨c17, H⟩ := chk_o H
      obtain ⟨a18, c19, H⟩ := kr_o H
      refine x_aald dX11_quick_25 c15 (by decide) (inb_in.mp c17) c19 ?_
      refine x_iload_n dX11_quick_26 rfl 2 rfl ?_
      refine x_aload_n dX11_quick_27 rfl 0 rfl ?_
      obtain ⟨a20, c21, H⟩ := kr_o H
      refine x_getR fr_X11_73 dX11_quick_28 c9 rfl c21 ?_
      obtain ⟨c22, H⟩ := ko_o H
      refine x_getI fr_X11_151 dX11_quick_31 c22 rfl ?_
      obtain ⟨c27, H⟩ := ko_o H
      obtain ⟨v23, h24, hc25, H⟩ := bd_o H
      refine x_callVi (As := [.int x2, .int (hI h6 a20 2)]) (q := (RX6, TX6, 8)) dX11_quick_34 mi_X6_isQuick lk_X11_260 im_X6_isQuick se_X6_isQuick rfl c27 rfl rfl (Nat.le_of_ble_eq_true rfl) (t_X6_isQuick (by omega) hc25) ?_
      refine x_if_eq (tgt := 44) dX11_quick_37 (by decide) (fun c26 => ?_) (fun c26 => ?_)
      · replace H := ite_p H c26
        refine x_iconst (v := 0) dX11_quick_44 (by decide) ?_
        refine Ex.sub [] rfl ?_
        exact t_X11_quick_45 hd H
      · replace H := ite_m H c26
        refine x_iconst (v := 1) dX11_quick_40 (by decide) ?_
        refine x_goto (tgt := 45) dX11_quick_41 (by decide) ?_
        refine Ex.sub [] rfl ?_
        exact t_X11_quick_45 hd H
    · replace H := ite_p H c8
      refine Ex.sub [] rfl ?_
      exact t_X11_quick_15 hd H
def f_X11_window (x0 : Nat) (x1 : Int32) (x2 : Int32) (h : aH) : Option (Int32 × aH) :=
  ko h x0 10 <|
  bd (f_X11_isPointer x0 x1 h) fun v1 h2 =>
  if v1 = 0 then
    some ((-1), h2)
  else
    ko h2 x0 10 <|
    kr (hR h2 x0 2) fun a6 =>
    ko h2 a6 9 <|
    kr (hR h2 a6 0) fun a9 =>
    ka h2 a9 (.object RX6) fun n12 =>
    chk (inb x1 n12 = true) <|
    kr (hR h2 a9 x1.toNatClampNeg) fun a14 =>
    if x2 = 0 then
      kr (hR h2 x0 9) fun a17 =>
      ko h2 a17 4 <|
      ko h2 a14 6 <|
      bd (f_X6_windowSize a14 (hI h2 a17 2) h2) fun v20 h21 =>
      some (v20, h21)
    else
    if x2 = 1 then
      kr (hR h2 x0 9) fun a25 =>
      ko h2 a25 4 <|
      ko h2 a14 6 <|
      bd (f_X6_countSlow a14 (hI h2 a25 2) h2) fun v28 h29 =>
      some (v28, h29)
    else
    some ((-1), h2)
set_option maxRecDepth 100000 in
set_option maxHeartbeats 4000000 in
theorem t_X11_window {Γ : gS} {d : Nat} (hd : 3 ≤ d) {x0 : Nat} {x1 : Int32} {x2 : Int32} {h : aH} {r : Int32} {h' : aH} (H : f_X11_window x0 x1 x2 h = some (r, h')) : Mx Γ gX11_window d [.ref x0, .int x1, .int x2] h (some (.int r)) h' := by
  refine Mx.of (by decide +kernel) (Nat.le_of_ble_eq_true rfl) ?_
  unfold f_X11_window at H
  show Ex Γ gX11_window d 0 [(0, .ref x0), (1, .int x1), (2, .int x2)] [] h (some (.int r)) h'
  obtain ⟨d, rfl⟩ : ∃ e, d = e + 1 := ⟨d - 1, by omega⟩
  refine x_aload_n dX11_window_0 rfl 0 rfl ?_
  refine x_iload_n dX11_window_1 rfl 1 rfl ?_
  obtain ⟨c32, H⟩ := ko_o H
  obtain ⟨v1, h2, hc3, H⟩ := bd_o H
  refine x_callVi (As := [.int x1]) (q := (RX11, TX11, 17)) dX11_window_2 mi_X11_isPointer lk_X11_196 im_X11_isPointer se_X11_isPointer rfl c32 rfl rfl (Nat.le_of_ble_eq_true rfl) (t_X11_isPointer (by omega) hc3) ?_
  refine x_if_ne (tgt := 10) dX11_window_5 (by decide) (fun c4 => ?_) (fun c4 => ?_)
  · replace H := ite_m H c4
    refine x_aload_n dX11_window_10 rfl 0 rfl ?_
    obtain ⟨c5, H⟩ := ko_o H
    obtain ⟨a6, c7, H⟩ := kr_o H
    refine x_getR fr_X11_20 dX11_window_11 c5 rfl c7 ?_
    obtain ⟨c8, H⟩ := ko_o H
    obtain ⟨a9, c10, H⟩ := kr_o H
    refine x_getR fr_X11_36 dX11_window_14 c8 rfl c10 ?_
    refine x_iload_n dX11_window_17 rfl 1 rfl ?_
    obtain ⟨n12, c11, H⟩ := ka_o H
    obtain ⟨c13, H⟩ := chk_o H
    obtain ⟨a14, c15, H⟩ := kr_o H
    refine x_aald dX11_window_18 c11 (by decide) (inb_in.mp c13) c15 ?_
    refine x_astore_n (lv' := [(3, .ref a14), (0, .ref x0), (1, .int x1), (2, .int x2)]) dX11_window_19 rfl (by decide) rfl rfl ?_
    refine x_iload_n dX11_window_20 rfl 3 rfl ?_
    by_cases c16 : x2 = 0
    · replace H := ite_p H c16
      refine x_lookup (tgt := 48) (off := 27) dX11_window_21 (by decide) (by rw [c16]; rfl) (by decide) ?_
      refine x_aload_n dX11_window_48 rfl 0 rfl ?_
      refine x_aload_n dX11_window_49 rfl 1 rfl ?_
      obtain ⟨a17, c18, H⟩ := kr_o H
      refine x_getR fr_X11_73 dX11_window_50 c5 rfl c18 ?_
      obtain ⟨c19, H⟩ := ko_o H
      refine x_getI fr_X11_151 dX11_window_53 c19 rfl ?_
      obtain ⟨c23, H⟩ := ko_o H
      obtain ⟨v20, h21, hc22, H⟩ := bd_o H
      refine x_callVi (As := [.int (hI h2 a17 2)]) (q := (RX6, TX6, 8)) dX11_window_56 mi_X6_windowSize lk_X11_263 im_X6_windowSize se_X6_windowSize rfl c23 rfl rfl (Nat.le_of_ble_eq_true rfl) (t_X6_windowSize (by omega) hc22) ?_
      obtain ⟨rfl, rfl⟩ := so_1 H
      exact x_iret dX11_window_59 rfl rfl
    replace H := ite_m H c16
    by_cases c24 : x2 = 1
    · replace H := ite_p H c24
      refine x_lookup (tgt := 60) (off := 39) dX11_window_21 (by decide) (by rw [c24]; rfl) (by decide) ?_
      refine x_aload_n dX11_window_60 rfl 0 rfl ?_
      refine x_aload_n dX11_window_61 rfl 1 rfl ?_
      obtain ⟨a25, c26, H⟩ := kr_o H
      refine x_getR fr_X11_73 dX11_window_62 c5 rfl c26 ?_
      obtain ⟨c27, H⟩ := ko_o H
      refine x_getI fr_X11_151 dX11_window_65 c27 rfl ?_
      obtain ⟨c31, H⟩ := ko_o H
      obtain ⟨v28, h29, hc30, H⟩ := bd_o H
      refine x_callVi (As := [.int (hI h2 a25 2)]) (q := (RX6, TX6, 8)) dX11_window_68 mi_X6_countSlow lk_X11_266 im_X6_countSlow se_X6_countSlow rfl c31 rfl rfl (Nat.le_of_ble_eq_true rfl) (t_X6_countSlow (by omega) hc30) ?_
      obtain ⟨rfl, rfl⟩ := so_1 H
      exact x_iret dX11_window_71 rfl rfl
    replace H := ite_m H c24
    refine x_lookup (tgt := 72) (off := 51) dX11_window_21 (by decide) (by show Op.lookupswitch.offset [(0, 27), (1, 39)] _ _ = _; rw [lv_osw c16 (by decide)]; rw [lv_osw c24 (by decide)]; rfl) (by decide) ?_
    refine x_iconst (v := (-1)) dX11_window_72 (by decide) ?_
    obtain ⟨rfl, rfl⟩ := so_1 H
    exact x_iret dX11_window_73 rfl rfl
  · replace H := ite_p H c4
    refine x_iconst (v := (-1)) dX11_window_8 (by decide) ?_
    obtain ⟨rfl, rfl⟩ := so_1 H
    exact x_iret dX11_window_9 rfl rfl
def f_X11_reachers_18 (h : aH) : Option (Int32 × aH) :=
  some ((-1), h)
set_option maxRecDepth 100000 in
set_option maxHeartbeats 4000000 in
theorem t_X11_reachers_18 {Γ : gS} {d : Nat} (hd : 3 ≤ d) {h : aH} {r : Int32} {h' : aH} (H : f_X11_reachers_18 h = some (r, h')) : Ex Γ gX11_reachers d 18 [] [] h (some (.int r)) h' := by
  unfold f_X11_reachers_18 at H
  obtain ⟨d, rfl⟩ : ∃ e, d = e + 1 := ⟨d - 1, by omega⟩
  refine x_iconst (v := (-1)) dX11_reachers_18 (by decide) ?_
  obtain ⟨rfl, rfl⟩ := so_1 H
  exact x_iret dX11_reachers_19 rfl rfl
def f_X11_reachers_71 (k24 : Nat → Int32 → Int32 → Int32 → aH → Option (Int32 × aH)) (x0 : Nat) (x1 : Int32) (x2 : Int32) (x3 : Int32) (h : aH) : Option (Int32 × aH) :=
  nm (x3 + 1) fun (v1 : Int32) =>
  k24 x0 x1 x2 v1 h
set_option maxRecDepth 100000 in
set_option maxHeartbeats 4000000 in
theorem t_X11_reachers_71 {Γ : gS} {d : Nat} (hd : 3 ≤ d) {k24 : Nat → Int32 → Int32 → Int32 → aH → Option (Int32 × aH)} (hk24 : ∀ {x0 : Nat} {x1 : Int32} {x2 : Int32} {x3 : Int32} {h : aH} {r : Int32} {h' : aH}, k24 x0 x1 x2 x3 h = some (r, h') → Ex Γ gX11_reachers d 24 [(0, .ref x0), (1, .int x1), (2, .int x2), (3, .int x3)] [] h (some (.int r)) h') {x0 : Nat} {x1 : Int32} {x2 : Int32} {x3 : Int32} {h : aH} {r : Int32} {h' : aH} (H : f_X11_reachers_71 k24 x0 x1 x2 x3 h = some (r, h')) : Ex Γ gX11_reachers d 71 [(0, .ref x0), (1, .int x1), (2, .int x2), (3, .int x3)] [] h (some (.int r)) h' := by
  unfold f_X11_reachers_71 at H
  obtain ⟨d, rfl⟩ : ∃ e, d = e + 1 := ⟨d - 1, by omega⟩
  obtain ⟨v1, ev1, H⟩ := nm_o H
  refine x_iinc (v := v1) (lv' := [(3, .int v1), (0, .ref x0), (1, .int x1), (2, .int x2)]) dX11_reachers_71 3 rfl (by decide) ev1 rfl ?_
  refine x_goto (tgt := 24) dX11_reachers_74 (by decide) ?_
  refine Ex.sub [1, 2, 3, 0] rfl ?_
  exact hk24 H
def b_X11_reachers_24 (k24 : Nat → Int32 → Int32 → Int32 → aH → Option (Int32 × aH)) (x0 : Nat) (x1 : Int32) (x2 : Int32) (x3 : Int32) (h : aH) : Option (Int32 × aH) :=
  if 16 ≤ x3 then
    some (x2, h)
  else
    ko h x0 10 <|
    kr (hR h x0 2) fun a4 =>
    ko h a4 9 <|
    kr (hR h a4 0) fun a7 =>
    ka h a7 (.object RX6) fun n10 =>
    chk (inb x3 n10 = true) <|
    kr (hR h a7 x3.toNatClampNeg) fun a12 =>
    ko h a12 6 <|
    bd (f_X6_isUsable a12 h) fun v14 h15 =>
    if v14 = 0 then
      f_X11_reachers_71 k24 x0 x1 x2 x3 h15
    else
      ko h15 x0 10 <|
      kr (hR h15 x0 9) fun a19 =>
      ko h15 a19 4 <|
      ko h15 a12 6 <|
      bd (f_X6_covers a12 x1 (hI h15 a19 2) h15) fun v22 h23 =>
      if v22 = 0 then
        f_X11_reachers_71 k24 x0 x1 x2 x3 h23
      else
        nm (x2 ||| (1 <<< (x3 &&& 31))) fun (v26 : Int32) =>
        f_X11_reachers_71 k24 x0 x1 v26 x3 h23
set_option maxRecDepth 100000 in
set_option maxHeartbeats 4000000 in
theorem tb_X11_reachers_24 {Γ : gS} {d : Nat} (hd : 3 ≤ d) {k24 : Nat → Int32 → Int32 → Int32 → aH → Option (Int32 × aH)} (hk24 : ∀ {x0 : Nat} {x1 : Int32} {x2 : Int32} {x3 : Int32} {h : aH} {r : Int32} {h' : aH}, k24 x0 x1 x2 x3 h = some (r, h') → Ex Γ gX11_reachers d 24 [(0, .ref x0), (1, .int x1), (2, .int x2), (3, .int x3)] [] h (some (.int r)) h') {x0 : Nat} {x1 : Int32} {x2 : Int32} {x3 : Int32} {h : aH} {r : Int32} {h' : aH} (H : b_X11_reachers_24 k24 x0 x1 x2 x3 h = some (r, h')) : Ex Γ gX11_reachers d 24 [(0, .ref x0), (1, .int x1), (2, .int x2), (3, .int x3)] [] h (some (.int r)) h' := by
  unfold b_X11_reachers_24 at H
  obtain ⟨d, rfl⟩ : ∃ e, d = e + 1 := ⟨d - 1, by omega⟩
  refine x_iload_n dX11_reachers_24 rfl 3 rfl ?_
  refine x_bipush (v := 16) dX11_reachers_25 (by decide) ?_
  refine x_icmp_ge (tgt := 77) dX11_reachers_27 (by decide) (fun c2 => ?_) (fun c2 => ?_)
  · replace H := ite_p H c2
    refine x_iload_n dX11_reachers_77 rfl 2 rfl ?_
    obtain ⟨rfl, rfl⟩ := so_1 H
    exact x_iret dX11_reachers_78 rfl rfl
  · replace H := ite_m H c2
    refine x_aload_n dX11_reachers_30 rfl 0 rfl ?_
    obtain ⟨c3, H⟩ := ko_o H
    obtain ⟨a4, c5, H⟩ := kr_o H
    refine x_getR fr_X11_20 dX11_reachers_31 c3 rfl c5 ?_
    obtain ⟨c6, H⟩ := ko_o H
    obtain ⟨a7, c8, H⟩ := kr_o H
    refine x_getR fr_X11_36 dX11_reachers_34 c6 rfl c8 ?_
    refine x_iload_n dX11_reachers_37 rfl 3 rfl ?_
    obtain ⟨n10, c9, H⟩ := ka_o H
    obtain ⟨c11, H⟩ := chk_o H
    obtain ⟨a12, c13, H⟩ := kr_o H
    refine x_aald dX11_reachers_38 c9 (by decide) (inb_in.mp c11) c13 ?_
    refine x_astore (lv' := [(4, .ref a12), (0, .ref x0), (1, .int x1), (2, .int x2), (3, .int x3)]) dX11_reachers_39 (by decide) rfl rfl ?_
    refine x_aload dX11_reachers_41 0 rfl ?_
    obtain ⟨c28, H⟩ := ko_o H
    obtain ⟨v14, h15, hc16, H⟩ := bd_o H
    refine x_callVi (As := []) (q := (RX6, TX6, 8)) dX11_reachers_43 mi_X6_isUsable lk_X11_269 im_X6_isUsable se_X6_isUsable rfl c28 rfl rfl (Nat.le_of_ble_eq_true rfl) (t_X6_isUsable (by omega) hc16) ?_
    refine x_if_eq (tgt := 71) dX11_reachers_46 (by decide) (fun c17 => ?_) (fun c17 => ?_)
    · replace H := ite_p H c17
      refine Ex.sub [1, 2, 3, 4] rfl ?_
      exact t_X11_reachers_71 hd hk24 H
    · replace H := ite_m H c17
      refine x_aload dX11_reachers_49 0 rfl ?_
      refine x_iload_n dX11_reachers_51 rfl 2 rfl ?_
      refine x_aload_n dX11_reachers_52 rfl 1 rfl ?_
      obtain ⟨c18, H⟩ := ko_o H
      obtain ⟨a19, c20, H⟩ := kr_o H
      refine x_getR fr_X11_73 dX11_reachers_53 c18 rfl c20 ?_
      obtain ⟨c21, H⟩ := ko_o H
      refine x_getI fr_X11_151 dX11_reachers_56 c21 rfl ?_
      obtain ⟨c27, H⟩ := ko_o H
      obtain ⟨v22, h23, hc24, H⟩ := bd_o H
      refine x_callVi (As := [.int x1, .int (hI h15 a19 2)]) (q := (RX6, TX6, 8)) dX11_reachers_59 mi_X6_covers lk_X11_273 im_X6_covers se_X6_covers rfl c27 rfl rfl (Nat.le_of_ble_eq_true rfl) (t_X6_covers (by omega) hc24) ?_
      refine x_if_eq (tgt := 71) dX11_reachers_62 (by decide) (fun c25 => ?_) (fun c25 => ?_)
      · replace H := ite_p H c25
        refine Ex.sub [1, 2, 3, 4] rfl ?_
        exact t_X11_reachers_71 hd hk24 H
      · replace H := ite_m H c25
        refine x_iload_n dX11_reachers_65 rfl 3 rfl ?_
        refine x_iconst (v := 1) dX11_reachers_66 (by decide) ?_
        refine x_iload_n dX11_reachers_67 rfl 4 rfl ?_
        refine x_ishl dX11_reachers_68 ?_
        refine x_ior dX11_reachers_69 ?_
        obtain ⟨v26, ev26, H⟩ := nm_o H
        refine x_istore_n (lv' := [(2, .int v26), (4, .ref a12), (0, .ref x0), (1, .int x1), (3, .int x3)]) dX11_reachers_70 rfl (by decide) ev26 rfl ?_
        refine Ex.sub [2, 3, 0, 4] rfl ?_
        exact t_X11_reachers_71 hd hk24 H
def f_X11_reachers_24 : Nat → Nat → Int32 → Int32 → Int32 → aH → Option (Int32 × aH)
  | 0 => fun _ _ _ _ _ => none
  | n + 1 => b_X11_reachers_24 (f_X11_reachers_24 n)
set_option maxRecDepth 100000 in
set_option maxHeartbeats 4000000 in
theorem t_X11_reachers_24 {Γ : gS} {d : Nat} (hd : 3 ≤ d) (n : Nat) : ∀ {x0 : Nat} {x1 : Int32} {x2 : Int32} {x3 : Int32} {h : aH} {r : Int32} {h' : aH}, f_X11_reachers_24 n x0 x1 x2 x3 h = some (r, h') → Ex Γ gX11_reachers d 24 [(0, .ref x0), (1, .int x1), (2, .int x2), (3, .int x3)] [] h (some (.int r)) h' := by
  induction n with
  | zero => intro x0 x1 x2 x3 h r h' H; cases H
  | succ n ih => intro x0 x1 x2 x3 h r h' H; exact tb_X11_reachers_24 hd ih H
def f_X11_reachers (x0 : Nat) (x1 : Int32) (h : aH) : Option (Int32 × aH) :=
  ko h x0 10 <|
  if (hI h x0 12) = 0 then
    f_X11_reachers_18 h
  else
    if x1 < 0 then
      f_X11_reachers_18 h
    else
      if x1 < 4096 then
        f_X11_reachers_24 FU x0 x1 0 0 h
      else
        f_X11_reachers_18 h
set_option maxRecDepth 100000 in
set_option maxHeartbeats 4000000 in
theorem t_X11_reachers {Γ : gS} {d : Nat} (hd : 3 ≤ d) {x0 : Nat} {x1 : Int32} {h : aH} {r : Int32} {h' : aH} (H : f_X11_reachers x0 x1 h = some (r, h')) : Mx Γ gX11_reachers d [.ref x0, .int x1] h (some (.int r)) h' := by
  refine Mx.of (by decide +kernel) (Nat.le_of_ble_eq_true rfl) ?_
  unfold f_X11_reachers at H
  show Ex Γ gX11_reachers d 0 [(0, .ref x0), (1, .int x1)] [] h (some (.int r)) h'
  obtain ⟨d, rfl⟩ : ∃ e, d = e + 1 := ⟨d - 1, by omega⟩
  refine x_aload_n dX11_reachers_0 rfl 0 rfl ?_
  obtain ⟨c29, H⟩ := ko_o H
  refine x_getI fr_X11_89 dX11_reachers_1 c29 rfl ?_
  refine x_if_eq (tgt := 18) dX11_reachers_4 (by decide) (fun c30 => ?_) (fun c30 => ?_)
  · replace H := ite_p H c30
    refine Ex.sub [] rfl ?_
    exact t_X11_reachers_18 hd H
  · replace H := ite_m H c30
    refine x_iload_n dX11_reachers_7 rfl 1 rfl ?_
    refine x_if_lt (tgt := 18) dX11_reachers_8 (by decide) (fun c31 => ?_) (fun c31 => ?_)
    · replace H := ite_p H c31
      refine Ex.sub [] rfl ?_
      exact t_X11_reachers_18 hd H
    · replace H := ite_m H c31
      refine x_iload_n dX11_reachers_11 rfl 1 rfl ?_
      refine x_sipush (v := 4096) dX11_reachers_12 (by decide) ?_
      refine x_icmp_lt (tgt := 20) dX11_reachers_15 (by decide) (fun c32 => ?_) (fun c32 => ?_)
      · replace H := ite_p H c32
        refine x_iconst (v := 0) dX11_reachers_20 (by decide) ?_
        refine x_istore_n (lv' := [(2, .int 0), (0, .ref x0), (1, .int x1)]) dX11_reachers_21 rfl (by decide) rfl rfl ?_
        refine x_iconst (v := 0) dX11_reachers_22 (by decide) ?_
        refine x_istore_n (lv' := [(3, .int 0), (2, .int 0), (0, .ref x0), (1, .int x1)]) dX11_reachers_23 rfl (by decide) rfl rfl ?_
        refine Ex.sub [2, 3, 1, 0] rfl ?_
        exact t_X11_reachers_24 hd FU H
      · replace H := ite_m H c32
        refine Ex.sub [] rfl ?_
        exact t_X11_reachers_18 hd H
def f_X11_room_33 (s0 : Int32) (h : aH) : Option (Int32 × aH) :=
  some (s0, h)
set_option maxRecDepth 100000 in
set_option maxHeartbeats 4000000 in
theorem t_X11_room_33 {Γ : gS} {d : Nat} (hd : 6 ≤ d) {s0 : Int32} {h : aH} {r : Int32} {h' : aH} (H : f_X11_room_33 s0 h = some (r, h')) : Ex Γ gX11_room d 33 [] [.int s0] h (some (.int r)) h' := by
  unfold f_X11_room_33 at H
  obtain ⟨d, rfl⟩ : ∃ e, d = e + 1 := ⟨d - 1, by omega⟩
  obtain ⟨rfl, rfl⟩ := so_1 H
  exact x_iret dX11_room_33 rfl rfl
def f_X11_room_32 (h : aH) : Option (Int32 × aH) :=
  f_X11_room_33 (-1) h
set_option maxRecDepth 100000 in
set_option maxHeartbeats 4000000 in
theorem t_X11_room_32 {Γ : gS} {d : Nat} (hd : 6 ≤ d) {h : aH} {r : Int32} {h' : aH} (H : f_X11_room_32 h = some (r, h')) : Ex Γ gX11_room d 32 [] [] h (some (.int r)) h' := by
  unfold f_X11_room_32 at H
  obtain ⟨d, rfl⟩ : ∃ e, d = e + 1 := ⟨d - 1, by omega⟩
  refine x_iconst (v := (-1)) dX11_room_32 (by decide) ?_
  exact t_X11_room_33 hd H
def f_X11_room (x0 : Nat) (x1 : Int32) (h : aH) : Option (Int32 × aH) :=
  ko h x0 10 <|
  if (hI h x0 12) = 0 then
    f_X11_room_32 h
  else
    kr (hR h x0 6) fun a3 =>
    kr (hR h x0 9) fun a5 =>
    ko h a3 1 <|
    bd (f_X1_search a3 a5 x1 h) fun v7 h8 =>
    if v7 = 0 then
      f_X11_room_32 h8
    else
      ko h8 x0 10 <|
      kr (hR h8 x0 6) fun a12 =>
      ko h8 a12 1 <|
      f_X11_room_33 (hI h8 a12 1) h8
set_option maxRecDepth 100000 in
set_option maxHeartbeats 4000000 in
theorem t_X11_room {Γ : gS} {d : Nat} (hd : 6 ≤ d) {x0 : Nat} {x1 : Int32} {h : aH} {r : Int32} {h' : aH} (H : f_X11_room x0 x1 h = some (r, h')) : Mx Γ gX11_room d [.ref x0, .int x1] h (some (.int r)) h' := by
  refine Mx.of (by decide +kernel) (Nat.le_of_ble_eq_true rfl) ?_
  unfold f_X11_room at H
  show Ex Γ gX11_room d 0 [(0, .ref x0), (1, .int x1)] [] h (some (.int r)) h'
  obtain ⟨d, rfl⟩ : ∃ e, d = e + 1 := ⟨d - 1, by omega⟩
  refine x_aload_n dX11_room_0 rfl 0 rfl ?_
  obtain ⟨c1, H⟩ := ko_o H
  refine x_getI fr_X11_89 dX11_room_1 c1 rfl ?_
  refine x_if_eq (tgt := 32) dX11_room_4 (by decide) (fun c2 => ?_) (fun c2 => ?_)
  · replace H := ite_p H c2
    refine Ex.sub [] rfl ?_
    exact t_X11_room_32 hd H
  · replace H := ite_m H c2
    refine x_aload_n dX11_room_7 rfl 0 rfl ?_
    obtain ⟨a3, c4, H⟩ := kr_o H
    refine x_getR fr_X11_52 dX11_room_8 c1 rfl c4 ?_
    refine x_aload_n dX11_room_11 rfl 0 rfl ?_
    obtain ⟨a5, c6, H⟩ := kr_o H
    refine x_getR fr_X11_73 dX11_room_12 c1 rfl c6 ?_
    refine x_iload_n dX11_room_15 rfl 1 rfl ?_
    obtain ⟨c15, H⟩ := ko_o H
    obtain ⟨v7, h8, hc9, H⟩ := bd_o H
    refine x_callVi (As := [.ref a5, .int x1]) (q := (RX1, TX1, 5)) dX11_room_16 mi_X1_search lk_X11_276 im_X1_search se_X1_search rfl c15 rfl rfl (Nat.le_of_ble_eq_true rfl) (t_X1_search (by omega) hc9) ?_
    refine x_if_eq (tgt := 32) dX11_room_19 (by decide) (fun c10 => ?_) (fun c10 => ?_)
    · replace H := ite_p H c10
      refine Ex.sub [] rfl ?_
      exact t_X11_room_32 hd H
    · replace H := ite_m H c10
      refine x_aload_n dX11_room_22 rfl 0 rfl ?_
      obtain ⟨c11, H⟩ := ko_o H
      obtain ⟨a12, c13, H⟩ := kr_o H
      refine x_getR fr_X11_52 dX11_room_23 c11 rfl c13 ?_
      obtain ⟨c14, H⟩ := ko_o H
      refine x_getI fr_X11_280 dX11_room_26 c14 rfl ?_
      refine x_goto (tgt := 33) dX11_room_29 (by decide) ?_
      refine Ex.sub [] rfl ?_
      exact t_X11_room_33 hd H
def f_X11_odds_37 (k13 : Nat → Int32 → Int32 → aH → Option (Int32 × aH)) (x0 : Nat) (x1 : Int32) (x2 : Int32) (h : aH) : Option (Int32 × aH) :=
  nm (x2 + 1) fun (v1 : Int32) =>
  k13 x0 x1 v1 h
set_option maxRecDepth 100000 in
set_option maxHeartbeats 4000000 in
theorem t_X11_odds_37 {Γ : gS} {d : Nat} (hd : 6 ≤ d) {k13 : Nat → Int32 → Int32 → aH → Option (Int32 × aH)} (hk13 : ∀ {x0 : Nat} {x1 : Int32} {x2 : Int32} {h : aH} {r : Int32} {h' : aH}, k13 x0 x1 x2 h = some (r, h') → Ex Γ gX11_odds d 13 [(0, .ref x0), (1, .int x1), (2, .int x2)] [] h (some (.int r)) h') {x0 : Nat} {x1 : Int32} {x2 : Int32} {h : aH} {r : Int32} {h' : aH} (H : f_X11_odds_37 k13 x0 x1 x2 h = some (r, h')) : Ex Γ gX11_odds d 37 [(0, .ref x0), (1, .int x1), (2, .int x2)] [] h (some (.int r)) h' := by
  unfold f_X11_odds_37 at H
  obtain ⟨d, rfl⟩ : ∃ e, d = e + 1 := ⟨d - 1, by omega⟩
  obtain ⟨v1, ev1, H⟩ := nm_o H
  refine x_iinc (v := v1) (lv' := [(2, .int v1), (0, .ref x0), (1, .int x1)]) dX11_odds_37 2 rfl (by decide) ev1 rfl ?_
  refine x_goto (tgt := 13) dX11_odds_40 (by decide) ?_
  refine Ex.sub [1, 2, 0] rfl ?_
  exact hk13 H
def b_X11_odds_13 (k13 : Nat → Int32 → Int32 → aH → Option (Int32 × aH)) (x0 : Nat) (x1 : Int32) (x2 : Int32) (h : aH) : Option (Int32 × aH) :=
  if 100 < x2 then
    some (x1, h)
  else
    ko h x0 10 <|
    kr (hR h x0 6) fun a4 =>
    kr (hR h x0 9) fun a6 =>
    ko h a4 1 <|
    bd (f_X1_search a4 a6 x2 h) fun v8 h9 =>
    if v8 = 0 then
      f_X11_odds_37 k13 x0 x1 x2 h9
    else
      nm (x1 + 1) fun (v12 : Int32) =>
      f_X11_odds_37 k13 x0 v12 x2 h9
set_option maxRecDepth 100000 in
set_option maxHeartbeats 4000000 in
theorem tb_X11_odds_13 {Γ : gS} {d : Nat} (hd : 6 ≤ d) {k13 : Nat → Int32 → Int32 → aH → Option (Int32 × aH)} (hk13 : ∀ {x0 : Nat} {x1 : Int32} {x2 : Int32} {h : aH} {r : Int32} {h' : aH}, k13 x0 x1 x2 h = some (r, h') → Ex Γ gX11_odds d 13 [(0, .ref x0), (1, .int x1), (2, .int x2)] [] h (some (.int r)) h') {x0 : Nat} {x1 : Int32} {x2 : Int32} {h : aH} {r : Int32} {h' : aH} (H : b_X11_odds_13 k13 x0 x1 x2 h = some (r, h')) : Ex Γ gX11_odds d 13 [(0, .ref x0), (1, .int x1), (2, .int x2)] [] h (some (.int r)) h' := by
  unfold b_X11_odds_13 at H
  obtain ⟨d, rfl⟩ : ∃ e, d = e + 1 := ⟨d - 1, by omega⟩
  refine x_iload_n dX11_odds_13 rfl 2 rfl ?_
  refine x_bipush (v := 100) dX11_odds_14 (by decide) ?_
  refine x_icmp_gt (tgt := 43) dX11_odds_16 (by decide) (fun c2 => ?_) (fun c2 => ?_)
  · replace H := ite_p H c2
    refine x_iload_n dX11_odds_43 rfl 1 rfl ?_
    obtain ⟨rfl, rfl⟩ := so_1 H
    exact x_iret dX11_odds_44 rfl rfl
  · replace H := ite_m H c2
    refine x_aload_n dX11_odds_19 rfl 0 rfl ?_
    obtain ⟨c3, H⟩ := ko_o H
    obtain ⟨a4, c5, H⟩ := kr_o H
    refine x_getR fr_X11_52 dX11_odds_20 c3 rfl c5 ?_
    refine x_aload_n dX11_odds_23 rfl 0 rfl ?_
    obtain ⟨a6, c7, H⟩ := kr_o H
    refine x_getR fr_X11_73 dX11_odds_24 c3 rfl c7 ?_
    refine x_iload_n dX11_odds_27 rfl 2 rfl ?_
    obtain ⟨c13, H⟩ := ko_o H
    obtain ⟨v8, h9, hc10, H⟩ := bd_o H
    refine x_callVi (As := [.ref a6, .int x2]) (q := (RX1, TX1, 5)) dX11_odds_28 mi_X1_search lk_X11_276 im_X1_search se_X1_search rfl c13 rfl rfl (Nat.le_of_ble_eq_true rfl) (t_X1_search (by omega) hc10) ?_
    refine x_if_eq (tgt := 37) dX11_odds_31 (by decide) (fun c11 => ?_) (fun c11 => ?_)
    · replace H := ite_p H c11
      exact t_X11_odds_37 hd hk13 H
    · replace H := ite_m H c11
      obtain ⟨v12, ev12, H⟩ := nm_o H
      refine x_iinc (v := v12) (lv' := [(1, .int v12), (0, .ref x0), (2, .int x2)]) dX11_odds_34 1 rfl (by decide) ev12 rfl ?_
      refine Ex.sub [1, 0, 2] rfl ?_
      exact t_X11_odds_37 hd hk13 H
def f_X11_odds_13 : Nat → Nat → Int32 → Int32 → aH → Option (Int32 × aH)
  | 0 => fun _ _ _ _ => none
  | n + 1 => b_X11_odds_13 (f_X11_odds_13 n)
set_option maxRecDepth 100000 in
set_option maxHeartbeats 4000000 in
theorem t_X11_odds_13 {Γ : gS} {d : Nat} (hd : 6 ≤ d) (n : Nat) : ∀ {x0 : Nat} {x1 : Int32} {x2 : Int32} {h : aH} {r : Int32} {h' : aH}, f_X11_odds_13 n x0 x1 x2 h = some (r, h') → Ex Γ gX11_odds d 13 [(0, .ref x0), (1, .int x1), (2, .int x2)] [] h (some (.int r)) h' := by
  induction n with
  | zero => intro x0 x1 x2 h r h' H; cases H
  | succ n ih => intro x0 x1 x2 h r h' H; exact tb_X11_odds_13 hd ih H
def f_X11_odds (x0 : Nat) (h : aH) : Option (Int32 × aH) :=
  ko h x0 10 <|
  if (hI h x0 12) = 0 then
    some ((-1), h)
  else
    f_X11_odds_13 FU x0 0 1 h
set_option maxRecDepth 100000 in
set_option maxHeartbeats 4000000 in
theorem t_X11_odds {Γ : gS} {d : Nat} (hd : 6 ≤ d) {x0 : Nat} {h : aH} {r : Int32} {h' : aH} (H : f_X11_odds x0 h = some (r, h')) : Mx Γ gX11_odds d [.ref x0] h (some (.int r)) h' := by
  refine Mx.of (by decide +kernel) (Nat.le_of_ble_eq_true rfl) ?_
  unfold f_X11_odds at H
  show Ex Γ gX11_odds d 0 [(0, .ref x0)] [] h (some (.int r)) h'
  obtain ⟨d, rfl⟩ : ∃ e, d = e + 1 := ⟨d - 1, by omega⟩
  refine x_aload_n dX11_odds_0 rfl 0 rfl ?_
  obtain ⟨c14, H⟩ := ko_o H
  refine x_getI fr_X11_89 dX11_odds_1 c14 rfl ?_
  refine x_if_ne (tgt := 9) dX11_odds_4 (by decide) (fun c15 => ?_) (fun c15 => ?_)
  · replace H := ite_m H c15
    refine x_iconst (v := 0) dX11_odds_9 (by decide) ?_
    refine x_istore_n (lv' := [(1, .int 0), (0, .ref x0)]) dX11_odds_10 rfl (by decide) rfl rfl ?_
    refine x_iconst (v := 1) dX11_odds_11 (by decide) ?_
    refine x_istore_n (lv' := [(2, .int 1), (1, .int 0), (0, .ref x0)]) dX11_odds_12 rfl (by decide) rfl rfl ?_
    refine Ex.sub [2, 1, 0] rfl ?_
    exact t_X11_odds_13 hd FU H
  · replace H := ite_p H c15
    refine x_iconst (v := (-1)) dX11_odds_7 (by decide) ?_
    obtain ⟨rfl, rfl⟩ := so_1 H
    exact x_iret dX11_odds_8 rfl rfl
def f_X11_share_16 (h : aH) : Option (Int32 × aH) :=
  some ((-1), h)
set_option maxRecDepth 100000 in
set_option maxHeartbeats 4000000 in
theorem t_X11_share_16 {Γ : gS} {d : Nat} (hd : 1 ≤ d) {h : aH} {r : Int32} {h' : aH} (H : f_X11_share_16 h = some (r, h')) : Ex Γ gX11_share d 16 [] [] h (some (.int r)) h' := by
  unfold f_X11_share_16 at H
  obtain ⟨d, rfl⟩ : ∃ e, d = e + 1 := ⟨d - 1, by omega⟩
  refine x_iconst (v := (-1)) dX11_share_16 (by decide) ?_
  obtain ⟨rfl, rfl⟩ := so_1 H
  exact x_iret dX11_share_17 rfl rfl
def f_X11_share_80 (s0 : Int32) (h : aH) : Option (Int32 × aH) :=
  some (s0, h)
set_option maxRecDepth 100000 in
set_option maxHeartbeats 4000000 in
theorem t_X11_share_80 {Γ : gS} {d : Nat} (hd : 1 ≤ d) {s0 : Int32} {h : aH} {r : Int32} {h' : aH} (H : f_X11_share_80 s0 h = some (r, h')) : Ex Γ gX11_share d 80 [] [.int s0] h (some (.int r)) h' := by
  unfold f_X11_share_80 at H
  obtain ⟨d, rfl⟩ : ∃ e, d = e + 1 := ⟨d - 1, by omega⟩
  obtain ⟨rfl, rfl⟩ := so_1 H
  exact x_iret dX11_share_80 rfl rfl
def f_X11_share_62 (x3 : Int32) (s0 : Int32) (h : aH) : Option (Int32 × aH) :=
  if 0 < s0 then
    chk (¬ s0 = 0) <|
    f_X11_share_80 ((100 * x3) / s0) h
  else
    f_X11_share_80 0 h
set_option maxRecDepth 100000 in
set_option maxHeartbeats 4000000 in
theorem t_X11_share_62 {Γ : gS} {d : Nat} (hd : 1 ≤ d) {x3 : Int32} {s0 : Int32} {h : aH} {r : Int32} {h' : aH} (H : f_X11_share_62 x3 s0 h = some (r, h')) : Ex Γ gX11_share d 62 [(3, .int x3)] [.int s0] h (some (.int r)) h' := by
  unfold f_X11_share_62 at H
  obtain ⟨d, rfl⟩ : ∃ e, d = e + 1 := ⟨d - 1, by omega⟩
  refine x_istore (lv' := [(4, .int s0), (3, .int x3)]) dX11_share_62 (by decide) rfl rfl ?_
  refine x_iload dX11_share_64 0 rfl ?_
  refine x_if_gt (tgt := 73) dX11_share_66 (by decide) (fun c1 => ?_) (fun c1 => ?_)
  · replace H := ite_p H c1
    refine x_bipush (v := 100) dX11_share_73 (by decide) ?_
    refine x_iload_n dX11_share_75 rfl 1 rfl ?_
    refine x_imul dX11_share_76 ?_
    refine x_iload dX11_share_77 0 rfl ?_
    obtain ⟨c2, H⟩ := chk_o H
    refine x_idiv dX11_share_79 c2 ?_
    refine Ex.sub [] rfl ?_
    exact t_X11_share_80 hd H
  · replace H := ite_m H c1
    refine x_iconst (v := 0) dX11_share_69 (by decide) ?_
    refine x_goto (tgt := 80) dX11_share_70 (by decide) ?_
    refine Ex.sub [] rfl ?_
    exact t_X11_share_80 hd H
def f_X11_share_43 (x0 : Nat) (x1 : Int32) (x2 : Int32) (s0 : Int32) (h : aH) : Option (Int32 × aH) :=
  if x1 = 0 then
    ko h x0 10 <|
    kr (hR h x0 9) fun a5 =>
    ko h a5 4 <|
    f_X11_share_62 s0 ((hI h a5 1) - 16) h
  else
    f_X11_share_62 s0 x2 h
set_option maxRecDepth 100000 in
set_option maxHeartbeats 4000000 in
theorem t_X11_share_43 {Γ : gS} {d : Nat} (hd : 1 ≤ d) {x0 : Nat} {x1 : Int32} {x2 : Int32} {s0 : Int32} {h : aH} {r : Int32} {h' : aH} (H : f_X11_share_43 x0 x1 x2 s0 h = some (r, h')) : Ex Γ gX11_share d 43 [(0, .ref x0), (1, .int x1), (2, .int x2)] [.int s0] h (some (.int r)) h' := by
  unfold f_X11_share_43 at H
  obtain ⟨d, rfl⟩ : ∃ e, d = e + 1 := ⟨d - 1, by omega⟩
  refine x_istore_n (lv' := [(3, .int s0), (0, .ref x0), (1, .int x1), (2, .int x2)]) dX11_share_43 rfl (by decide) rfl rfl ?_
  refine x_iload_n dX11_share_44 rfl 2 rfl ?_
  refine x_if_ne (tgt := 61) dX11_share_45 (by decide) (fun c3 => ?_) (fun c3 => ?_)
  · replace H := ite_m H c3
    refine x_iload_n dX11_share_61 rfl 3 rfl ?_
    refine Ex.sub [0] rfl ?_
    exact t_X11_share_62 hd H
  · replace H := ite_p H c3
    refine x_aload_n dX11_share_48 rfl 1 rfl ?_
    obtain ⟨c4, H⟩ := ko_o H
    obtain ⟨a5, c6, H⟩ := kr_o H
    refine x_getR fr_X11_73 dX11_share_49 c4 rfl c6 ?_
    obtain ⟨c7, H⟩ := ko_o H
    refine x_getI fr_X11_160 dX11_share_52 c7 rfl ?_
    refine x_bipush (v := 16) dX11_share_55 (by decide) ?_
    refine x_isub dX11_share_57 ?_
    refine x_goto (tgt := 62) dX11_share_58 (by decide) ?_
    refine Ex.sub [0] rfl ?_
    exact t_X11_share_62 hd H
def f_X11_share (x0 : Nat) (x1 : Int32) (h : aH) : Option (Int32 × aH) :=
  ko h x0 10 <|
  if (hI h x0 12) = 0 then
    f_X11_share_16 h
  else
    if x1 < 0 then
      f_X11_share_16 h
    else
      if x1 ≤ 1 then
        kr (hR h x0 2) fun a12 =>
        ko h a12 9 <|
        bd (f_X9_bytesInObjects a12 h) fun v14 h15 =>
        if x1 = 0 then
          f_X11_share_43 x0 x1 v14 v14 h15
        else
          ko h15 x0 10 <|
          kr (hR h15 x0 2) fun a19 =>
          ko h15 a19 9 <|
          bd (f_X9_bytesAsked a19 h15) fun v21 h22 =>
          f_X11_share_43 x0 x1 v14 (v14 - v21) h22
      else
        f_X11_share_16 h
set_option maxRecDepth 100000 in
set_option maxHeartbeats 4000000 in
theorem t_X11_share {Γ : gS} {d : Nat} (hd : 1 ≤ d) {x0 : Nat} {x1 : Int32} {h : aH} {r : Int32} {h' : aH} (H : f_X11_share x0 x1 h = some (r, h')) : Mx Γ gX11_share d [.ref x0, .int x1] h (some (.int r)) h' := by
  refine Mx.of (by decide +kernel) (Nat.le_of_ble_eq_true rfl) ?_
  unfold f_X11_share at H
  show Ex Γ gX11_share d 0 [(0, .ref x0), (1, .int x1)] [] h (some (.int r)) h'
  obtain ⟨d, rfl⟩ : ∃ e, d = e + 1 := ⟨d - 1, by omega⟩
  refine x_aload_n dX11_share_0 rfl 0 rfl ?_
  obtain ⟨c8, H⟩ := ko_o H
  refine x_getI fr_X11_89 dX11_share_1 c8 rfl ?_
  refine x_if_eq (tgt := 16) dX11_share_4 (by decide) (fun c9 => ?_) (fun c9 => ?_)
  · replace H := ite_p H c9
    refine Ex.sub [] rfl ?_
    exact t_X11_share_16 hd H
  · replace H := ite_m H c9
    refine x_iload_n dX11_share_7 rfl 1 rfl ?_
    refine x_if_lt (tgt := 16) dX11_share_8 (by decide) (fun c10 => ?_) (fun c10 => ?_)
    · replace H := ite_p H c10
      refine Ex.sub [] rfl ?_
      exact t_X11_share_16 hd H
    · replace H := ite_m H c10
      refine x_iload_n dX11_share_11 rfl 1 rfl ?_
      refine x_iconst (v := 1) dX11_share_12 (by decide) ?_
      refine x_icmp_le (tgt := 18) dX11_share_13 (by decide) (fun c11 => ?_) (fun c11 => ?_)
      · replace H := ite_p H c11
        refine x_aload_n dX11_share_18 rfl 0 rfl ?_
        obtain ⟨a12, c13, H⟩ := kr_o H
        refine x_getR fr_X11_20 dX11_share_19 c8 rfl c13 ?_
        obtain ⟨c25, H⟩ := ko_o H
        obtain ⟨v14, h15, hc16, H⟩ := bd_o H
        refine x_callVi (As := []) (q := (RX9, TX9, 8)) dX11_share_22 mi_X9_bytesInObjects lk_X11_169 im_X9_bytesInObjects se_X9_bytesInObjects rfl c25 rfl rfl (Nat.le_of_ble_eq_true rfl) (t_X9_bytesInObjects (by omega) hc16) ?_
        refine x_istore_n (lv' := [(2, .int v14), (0, .ref x0), (1, .int x1)]) dX11_share_25 rfl (by decide) rfl rfl ?_
        refine x_iload_n dX11_share_26 rfl 2 rfl ?_
        refine x_if_ne (tgt := 34) dX11_share_27 (by decide) (fun c17 => ?_) (fun c17 => ?_)
        · replace H := ite_m H c17
          refine x_iload_n dX11_share_34 rfl 0 rfl ?_
          refine x_aload_n dX11_share_35 rfl 1 rfl ?_
          obtain ⟨c18, H⟩ := ko_o H
          obtain ⟨a19, c20, H⟩ := kr_o H
          refine x_getR fr_X11_20 dX11_share_36 c18 rfl c20 ?_
          obtain ⟨c24, H⟩ := ko_o H
          obtain ⟨v21, h22, hc23, H⟩ := bd_o H
          refine x_callVi (As := []) (q := (RX9, TX9, 8)) dX11_share_39 mi_X9_bytesAsked lk_X11_283 im_X9_bytesAsked se_X9_bytesAsked rfl c24 rfl rfl (Nat.le_of_ble_eq_true rfl) (t_X9_bytesAsked (by omega) hc23) ?_
          refine x_isub dX11_share_42 ?_
          refine Ex.sub [1, 2, 0] rfl ?_
          exact t_X11_share_43 hd H
        · replace H := ite_p H c17
          refine x_iload_n dX11_share_30 rfl 0 rfl ?_
          refine x_goto (tgt := 43) dX11_share_31 (by decide) ?_
          refine Ex.sub [1, 2, 0] rfl ?_
          exact t_X11_share_43 hd H
      · replace H := ite_m H c11
        refine Ex.sub [] rfl ?_
        exact t_X11_share_16 hd H
def f_X11_see_27 (x0 : Nat) (h : aH) : Option (Int32 × aH) :=
  ko h x0 10 <|
  bd (f_X11_refuse x0 1 h) fun v1 h2 =>
  some (v1, h2)
set_option maxRecDepth 100000 in
set_option maxHeartbeats 4000000 in
theorem t_X11_see_27 {Γ : gS} {d : Nat} (hd : 1 ≤ d) {x0 : Nat} {h : aH} {r : Int32} {h' : aH} (H : f_X11_see_27 x0 h = some (r, h')) : Ex Γ gX11_see d 27 [(0, .ref x0)] [] h (some (.int r)) h' := by
  unfold f_X11_see_27 at H
  obtain ⟨d, rfl⟩ : ∃ e, d = e + 1 := ⟨d - 1, by omega⟩
  refine x_aload_n dX11_see_27 rfl 0 rfl ?_
  refine x_iconst (v := 1) dX11_see_28 (by decide) ?_
  obtain ⟨c4, H⟩ := ko_o H
  obtain ⟨v1, h2, hc3, H⟩ := bd_o H
  refine x_callVi (As := [.int 1]) (q := (RX11, TX11, 17)) dX11_see_29 mi_X11_refuse lk_X11_107 im_X11_refuse se_X11_refuse rfl c4 rfl rfl (Nat.le_of_ble_eq_true rfl) (t_X11_refuse (by omega) hc3) ?_
  obtain ⟨rfl, rfl⟩ := so_1 H
  exact x_iret dX11_see_32 rfl rfl
def f_X11_see (x0 : Nat) (h : aH) : Option (Int32 × aH) :=
  ko h x0 10 <|
  bd (f_X11_takeTape x0 h) fun v5 h6 =>
  ko h6 x0 10 <|
  if (hI h6 x0 12) = 0 then
    f_X11_see_27 x0 h6
  else
    kr (hR h6 x0 7) fun a10 =>
    kr (hR h6 x0 0) fun a12 =>
    ko h6 a10 8 <|
    bd (f_X8_look a10 a12 v5 h6) fun v14 h15 =>
    if v14 = 0 then
      f_X11_see_27 x0 h15
    else
      ko h15 x0 10 <|
      kr (hR h15 x0 7) fun a19 =>
      ko h15 a19 8 <|
      some (hI h15 a19 0, h15)
set_option maxRecDepth 100000 in
set_option maxHeartbeats 4000000 in
theorem t_X11_see {Γ : gS} {d : Nat} (hd : 1 ≤ d) {x0 : Nat} {h : aH} {r : Int32} {h' : aH} (H : f_X11_see x0 h = some (r, h')) : Mx Γ gX11_see d [.ref x0] h (some (.int r)) h' := by
  refine Mx.of (by decide +kernel) (Nat.le_of_ble_eq_true rfl) ?_
  unfold f_X11_see at H
  show Ex Γ gX11_see d 0 [(0, .ref x0)] [] h (some (.int r)) h'
  obtain ⟨d, rfl⟩ : ∃ e, d = e + 1 := ⟨d - 1, by omega⟩
  refine x_aload_n dX11_see_0 rfl 0 rfl ?_
  obtain ⟨c23, H⟩ := ko_o H
  obtain ⟨v5, h6, hc7, H⟩ := bd_o H
  refine x_callVi (As := []) (q := (RX11, TX11, 17)) dX11_see_1 mi_X11_takeTape lk_X11_119 im_X11_takeTape se_X11_takeTape rfl c23 rfl rfl (Nat.le_of_ble_eq_true rfl) (t_X11_takeTape (by omega) hc7) ?_
  refine x_istore_n (lv' := [(1, .int v5), (0, .ref x0)]) dX11_see_4 rfl (by decide) rfl rfl ?_
  refine x_aload_n dX11_see_5 rfl 1 rfl ?_
  obtain ⟨c8, H⟩ := ko_o H
  refine x_getI fr_X11_89 dX11_see_6 c8 rfl ?_
  refine x_if_eq (tgt := 27) dX11_see_9 (by decide) (fun c9 => ?_) (fun c9 => ?_)
  · replace H := ite_p H c9
    refine Ex.sub [1] rfl ?_
    exact t_X11_see_27 hd H
  · replace H := ite_m H c9
    refine x_aload_n dX11_see_12 rfl 1 rfl ?_
    obtain ⟨a10, c11, H⟩ := kr_o H
    refine x_getR fr_X11_59 dX11_see_13 c8 rfl c11 ?_
    refine x_aload_n dX11_see_16 rfl 1 rfl ?_
    obtain ⟨a12, c13, H⟩ := kr_o H
    refine x_getR fr_X11_9 dX11_see_17 c8 rfl c13 ?_
    refine x_iload_n dX11_see_20 rfl 0 rfl ?_
    obtain ⟨c22, H⟩ := ko_o H
    obtain ⟨v14, h15, hc16, H⟩ := bd_o H
    refine x_callVi (As := [.ref a12, .int v5]) (q := (RX8, TX8, 7)) dX11_see_21 mi_X8_look lk_X11_286 im_X8_look se_X8_look rfl c22 rfl rfl (Nat.le_of_ble_eq_true rfl) (t_X8_look (by omega) hc16) ?_
    refine x_if_ne (tgt := 33) dX11_see_24 (by decide) (fun c17 => ?_) (fun c17 => ?_)
    · replace H := ite_m H c17
      refine x_aload_n dX11_see_33 rfl 1 rfl ?_
      obtain ⟨c18, H⟩ := ko_o H
      obtain ⟨a19, c20, H⟩ := kr_o H
      refine x_getR fr_X11_59 dX11_see_34 c18 rfl c20 ?_
      obtain ⟨c21, H⟩ := ko_o H
      refine x_getI fr_X11_181 dX11_see_37 c21 rfl ?_
      obtain ⟨rfl, rfl⟩ := so_1 H
      exact x_iret dX11_see_40 rfl rfl
    · replace H := ite_p H c17
      refine Ex.sub [1] rfl ?_
      exact t_X11_see_27 hd H
def f_X11_places_56 (s0 : Int32) (h : aH) : Option (Int32 × aH) :=
  some (s0, h)
set_option maxRecDepth 100000 in
set_option maxHeartbeats 4000000 in
theorem t_X11_places_56 {Γ : gS} {d : Nat} (hd : 4 ≤ d) {s0 : Int32} {h : aH} {r : Int32} {h' : aH} (H : f_X11_places_56 s0 h = some (r, h')) : Ex Γ gX11_places d 56 [] [.int s0] h (some (.int r)) h' := by
  unfold f_X11_places_56 at H
  obtain ⟨d, rfl⟩ : ∃ e, d = e + 1 := ⟨d - 1, by omega⟩
  obtain ⟨rfl, rfl⟩ := so_1 H
  exact x_iret dX11_places_56 rfl rfl
def f_X11_places (x0 : Nat) (x1 : Int32) (x2 : Int32) (h : aH) : Option (Int32 × aH) :=
  ko h x0 10 <|
  bd (f_X11_isPointer x0 x1 h) fun v1 h2 =>
  if v1 = 0 then
    some ((-1), h2)
  else
    ko h2 x0 10 <|
    kr (hR h2 x0 7) fun a6 =>
    kr (hR h2 x0 2) fun a8 =>
    ko h2 a8 9 <|
    kr (hR h2 a8 0) fun a11 =>
    ka h2 a11 (.object RX6) fun n14 =>
    chk (inb x1 n14 = true) <|
    kr (hR h2 a11 x1.toNatClampNeg) fun a16 =>
    kr (hR h2 x0 9) fun a18 =>
    ko h2 a18 4 <|
    ko h2 a6 8 <|
    bd (f_X8_aim a6 a16 (hI h2 a18 2) h2) fun _ h22 =>
    if x2 = (-1) then
      ko h22 x0 10 <|
      kr (hR h22 x0 7) fun a33 =>
      ko h22 a33 8 <|
      bd (f_X8_countPlaces a33 h22) fun v35 h36 =>
      f_X11_places_56 v35 h36
    else
      ko h22 x0 10 <|
      kr (hR h22 x0 7) fun a26 =>
      ko h22 a26 8 <|
      bd (f_X8_placeNumber a26 x2 h22) fun v28 h29 =>
      f_X11_places_56 v28 h29
set_option maxRecDepth 100000 in
set_option maxHeartbeats 4000000 in
theorem t_X11_places {Γ : gS} {d : Nat} (hd : 4 ≤ d) {x0 : Nat} {x1 : Int32} {x2 : Int32} {h : aH} {r : Int32} {h' : aH} (H : f_X11_places x0 x1 x2 h = some (r, h')) : Mx Γ gX11_places d [.ref x0, .int x1, .int x2] h (some (.int r)) h' := by
  refine Mx.of (by decide +kernel) (Nat.le_of_ble_eq_true rfl) ?_
  unfold f_X11_places at H
  show Ex Γ gX11_places d 0 [(0, .ref x0), (1, .int x1), (2, .int x2)] [] h (some (.int r)) h'
  obtain ⟨d, rfl⟩ : ∃ e, d = e + 1 := ⟨d - 1, by omega⟩
  refine x_aload_n dX11_places_0 rfl 0 rfl ?_
  refine x_iload_n dX11_places_1 rfl 1 rfl ?_
  obtain ⟨c40, H⟩ := ko_o H
  obtain ⟨v1, h2, hc3, H⟩ := bd_o H
  refine x_callVi (As := [.int x1]) (q := (RX11, TX11, 17)) dX11_places_2 mi_X11_isPointer lk_X11_196 im_X11_isPointer se_X11_isPointer rfl c40 rfl rfl (Nat.le_of_ble_eq_true rfl) (t_X11_isPointer (by omega) hc3) ?_
  refine x_if_ne (tgt := 10) dX11_places_5 (by decide) (fun c4 => ?_) (fun c4 => ?_)
  · replace H := ite_m H c4
    refine x_aload_n dX11_places_10 rfl 0 rfl ?_
    obtain ⟨c5, H⟩ := ko_o H
    obtain ⟨a6, c7, H⟩ := kr_o H
    refine x_getR fr_X11_59 dX11_places_11 c5 rfl c7 ?_
    refine x_aload_n dX11_places_14 rfl 0 rfl ?_
    obtain ⟨a8, c9, H⟩ := kr_o H
    refine x_getR fr_X11_20 dX11_places_15 c5 rfl c9 ?_
    obtain ⟨c10, H⟩ := ko_o H
    obtain ⟨a11, c12, H⟩ := kr_o H
    refine x_getR fr_X11_36 dX11_places_18 c10 rfl c12 ?_
    refine x_iload_n dX11_places_21 rfl 1 rfl ?_
    obtain ⟨n14, c13, H⟩ := ka_o H
    obtain ⟨c15, H⟩ := chk_o H
    obtain ⟨a16, c17, H⟩ := kr_o H
    refine x_aald dX11_places_22 c13 (by decide) (inb_in.mp c15) c17 ?_
    refine x_aload_n dX11_places_23 rfl 0 rfl ?_
    obtain ⟨a18, c19, H⟩ := kr_o H
    refine x_getR fr_X11_73 dX11_places_24 c5 rfl c19 ?_
    obtain ⟨c20, H⟩ := ko_o H
    refine x_getI fr_X11_151 dX11_places_27 c20 rfl ?_
    obtain ⟨c39, H⟩ := ko_o H
    obtain ⟨v21, h22, hc23, H⟩ := bd_o H
    refine x_callVv (As := [.ref a16, .int (hI h2 a18 2)]) (q := (RX8, TX8, 7)) dX11_places_30 mi_X8_aim lk_X11_290 im_X8_aim se_X8_aim rfl c39 rfl rfl (Nat.le_of_ble_eq_true rfl) (t_X8_aim (by omega) hc23) ?_
    refine x_iload_n dX11_places_33 rfl 2 rfl ?_
    refine x_iconst (v := (-1)) dX11_places_34 (by decide) ?_
    refine x_icmp_ne (tgt := 48) dX11_places_35 (by decide) (fun c24 => ?_) (fun c24 => ?_)
    · replace H := ite_m H c24
      refine x_aload_n dX11_places_48 rfl 0 rfl ?_
      obtain ⟨c25, H⟩ := ko_o H
      obtain ⟨a26, c27, H⟩ := kr_o H
      refine x_getR fr_X11_59 dX11_places_49 c25 rfl c27 ?_
      refine x_iload_n dX11_places_52 rfl 2 rfl ?_
      obtain ⟨c31, H⟩ := ko_o H
      obtain ⟨v28, h29, hc30, H⟩ := bd_o H
      refine x_callVi (As := [.int x2]) (q := (RX8, TX8, 7)) dX11_places_53 mi_X8_placeNumber lk_X11_297 im_X8_placeNumber se_X8_placeNumber rfl c31 rfl rfl (Nat.le_of_ble_eq_true rfl) (t_X8_placeNumber (by omega) hc30) ?_
      refine Ex.sub [] rfl ?_
      exact t_X11_places_56 hd H
    · replace H := ite_p H c24
      refine x_aload_n dX11_places_38 rfl 0 rfl ?_
      obtain ⟨c32, H⟩ := ko_o H
      obtain ⟨a33, c34, H⟩ := kr_o H
      refine x_getR fr_X11_59 dX11_places_39 c32 rfl c34 ?_
      obtain ⟨c38, H⟩ := ko_o H
      obtain ⟨v35, h36, hc37, H⟩ := bd_o H
      refine x_callVi (As := []) (q := (RX8, TX8, 7)) dX11_places_42 mi_X8_countPlaces lk_X11_294 im_X8_countPlaces se_X8_countPlaces rfl c38 rfl rfl (Nat.le_of_ble_eq_true rfl) (t_X8_countPlaces (by omega) hc37) ?_
      refine x_goto (tgt := 56) dX11_places_45 (by decide) ?_
      refine Ex.sub [] rfl ?_
      exact t_X11_places_56 hd H
  · replace H := ite_p H c4
    refine x_iconst (v := (-1)) dX11_places_8 (by decide) ?_
    obtain ⟨rfl, rfl⟩ := so_1 H
    exact x_iret dX11_places_9 rfl rfl
def f_X11_tells_17 (h : aH) : Option (Int32 × aH) :=
  some ((-1), h)
set_option maxRecDepth 100000 in
set_option maxHeartbeats 4000000 in
theorem t_X11_tells_17 {Γ : gS} {d : Nat} (hd : 4 ≤ d) {h : aH} {r : Int32} {h' : aH} (H : f_X11_tells_17 h = some (r, h')) : Ex Γ gX11_tells d 17 [] [] h (some (.int r)) h' := by
  unfold f_X11_tells_17 at H
  obtain ⟨d, rfl⟩ : ∃ e, d = e + 1 := ⟨d - 1, by omega⟩
  refine x_iconst (v := (-1)) dX11_tells_17 (by decide) ?_
  obtain ⟨rfl, rfl⟩ := so_1 H
  exact x_iret dX11_tells_18 rfl rfl
def f_X11_tells_78 (s0 : Int32) (h : aH) : Option (Int32 × aH) :=
  some (s0, h)
set_option maxRecDepth 100000 in
set_option maxHeartbeats 4000000 in
theorem t_X11_tells_78 {Γ : gS} {d : Nat} (hd : 4 ≤ d) {s0 : Int32} {h : aH} {r : Int32} {h' : aH} (H : f_X11_tells_78 s0 h = some (r, h')) : Ex Γ gX11_tells d 78 [] [.int s0] h (some (.int r)) h' := by
  unfold f_X11_tells_78 at H
  obtain ⟨d, rfl⟩ : ∃ e, d = e + 1 := ⟨d - 1, by omega⟩
  obtain ⟨rfl, rfl⟩ := so_1 H
  exact x_iret dX11_tells_78 rfl rfl
def f_X11_tells (x0 : Nat) (x1 : Int32) (x2 : Int32) (h : aH) : Option (Int32 × aH) :=
  ko h x0 10 <|
  bd (f_X11_isPointer x0 x1 h) fun v1 h2 =>
  if v1 = 0 then
    f_X11_tells_17 h2
  else
    if x2 < 0 then
      f_X11_tells_17 h2
    else
      if x2 ≤ 1 then
        ko h2 x0 10 <|
        kr (hR h2 x0 7) fun a8 =>
        kr (hR h2 x0 2) fun a10 =>
        ko h2 a10 9 <|
        kr (hR h2 a10 0) fun a13 =>
        ka h2 a13 (.object RX6) fun n16 =>
        chk (inb x1 n16 = true) <|
        kr (hR h2 a13 x1.toNatClampNeg) fun a18 =>
        kr (hR h2 x0 9) fun a20 =>
        ko h2 a20 4 <|
        ko h2 a8 8 <|
        bd (f_X8_aim a8 a18 (hI h2 a20 2) h2) fun _ h24 =>
        ko h24 x0 10 <|
        kr (hR h24 x0 7) fun a27 =>
        ko h24 a27 8 <|
        bd (f_X8_findTelling a27 h24) fun v29 h30 =>
        if v29 = 0 then
          some ((-1), h30)
        else
          if x2 = 0 then
            ko h30 x0 10 <|
            kr (hR h30 x0 7) fun a39 =>
            ko h30 a39 8 <|
            f_X11_tells_78 ((hI h30 a39 1) + 64) h30
          else
            ko h30 x0 10 <|
            kr (hR h30 x0 7) fun a35 =>
            ko h30 a35 8 <|
            f_X11_tells_78 (hI h30 a35 2) h30
      else
        f_X11_tells_17 h2
set_option maxRecDepth 100000 in
set_option maxHeartbeats 4000000 in
theorem t_X11_tells {Γ : gS} {d : Nat} (hd : 4 ≤ d) {x0 : Nat} {x1 : Int32} {x2 : Int32} {h : aH} {r : Int32} {h' : aH} (H : f_X11_tells x0 x1 x2 h = some (r, h')) : Mx Γ gX11_tells d [.ref x0, .int x1, .int x2] h (some (.int r)) h' := by
  refine Mx.of (by decide +kernel) (Nat.le_of_ble_eq_true rfl) ?_
  unfold f_X11_tells at H
  show Ex Γ gX11_tells d 0 [(0, .ref x0), (1, .int x1), (2, .int x2)] [] h (some (.int r)) h'
  obtain ⟨d, rfl⟩ : ∃ e, d = e + 1 := ⟨d - 1, by omega⟩
  refine x_aload_n dX11_tells_0 rfl 0 rfl ?_
  refine x_iload_n dX11_tells_1 rfl 1 rfl ?_
  obtain ⟨c44, H⟩ := ko_o H
  obtain ⟨v1, h2, hc3, H⟩ := bd_o H
  refine x_callVi (As := [.int x1]) (q := (RX11, TX11, 17)) dX11_tells_2 mi_X11_isPointer lk_X11_196 im_X11_isPointer se_X11_isPointer rfl c44 rfl rfl (Nat.le_of_ble_eq_true rfl) (t_X11_isPointer (by omega) hc3) ?_
  refine x_if_eq (tgt := 17) dX11_tells_5 (by decide) (fun c4 => ?_) (fun c4 => ?_)
  · replace H := ite_p H c4
    refine Ex.sub [] rfl ?_
    exact t_X11_tells_17 hd H
  · replace H := ite_m H c4
    refine x_iload_n dX11_tells_8 rfl 2 rfl ?_
    refine x_if_lt (tgt := 17) dX11_tells_9 (by decide) (fun c5 => ?_) (fun c5 => ?_)
    · replace H := ite_p H c5
      refine Ex.sub [] rfl ?_
      exact t_X11_tells_17 hd H
    · replace H := ite_m H c5
      refine x_iload_n dX11_tells_12 rfl 2 rfl ?_
      refine x_iconst (v := 1) dX11_tells_13 (by decide) ?_
      refine x_icmp_le (tgt := 19) dX11_tells_14 (by decide) (fun c6 => ?_) (fun c6 => ?_)
      · replace H := ite_p H c6
        refine x_aload_n dX11_tells_19 rfl 0 rfl ?_
        obtain ⟨c7, H⟩ := ko_o H
        obtain ⟨a8, c9, H⟩ := kr_o H
        refine x_getR fr_X11_59 dX11_tells_20 c7 rfl c9 ?_
        refine x_aload_n dX11_tells_23 rfl 0 rfl ?_
        obtain ⟨a10, c11, H⟩ := kr_o H
        refine x_getR fr_X11_20 dX11_tells_24 c7 rfl c11 ?_
        obtain ⟨c12, H⟩ := ko_o H
        obtain ⟨a13, c14, H⟩ := kr_o H
        refine x_getR fr_X11_36 dX11_tells_27 c12 rfl c14 ?_
        refine x_iload_n dX11_tells_30 rfl 1 rfl ?_
        obtain ⟨n16, c15, H⟩ := ka_o H
        obtain ⟨c17, H⟩ := chk_o H
        obtain ⟨a18, c19, H⟩ := kr_o H
        refine x_aald dX11_tells_31 c15 (by decide) (inb_in.mp c17) c19 ?_
        refine x_aload_n dX11_tells_32 rfl 0 rfl ?_
        obtain ⟨a20, c21, H⟩ := kr_o H
        refine x_getR fr_X11_73 dX11_tells_33 c7 rfl c21 ?_
        obtain ⟨c22, H⟩ := ko_o H
        refine x_getI fr_X11_151 dX11_tells_36 c22 rfl ?_
        obtain ⟨c43, H⟩ := ko_o H
        obtain ⟨v23, h24, hc25, H⟩ := bd_o H
        refine x_callVv (As := [.ref a18, .int (hI h2 a20 2)]) (q := (RX8, TX8, 7)) dX11_tells_39 mi_X8_aim lk_X11_290 im_X8_aim se_X8_aim rfl c43 rfl rfl (Nat.le_of_ble_eq_true rfl) (t_X8_aim (by omega) hc25) ?_
        refine x_aload_n dX11_tells_42 rfl 0 rfl ?_
        obtain ⟨c26, H⟩ := ko_o H
        obtain ⟨a27, c28, H⟩ := kr_o H
        refine x_getR fr_X11_59 dX11_tells_43 c26 rfl c28 ?_
        obtain ⟨c42, H⟩ := ko_o H
        obtain ⟨v29, h30, hc31, H⟩ := bd_o H
        refine x_callVi (As := []) (q := (RX8, TX8, 7)) dX11_tells_46 mi_X8_findTelling lk_X11_300 im_X8_findTelling se_X8_findTelling rfl c42 rfl rfl (Nat.le_of_ble_eq_true rfl) (t_X8_findTelling (by omega) hc31) ?_
        refine x_if_ne (tgt := 54) dX11_tells_49 (by decide) (fun c32 => ?_) (fun c32 => ?_)
        · replace H := ite_m H c32
          refine x_iload_n dX11_tells_54 rfl 2 rfl ?_
          refine x_if_ne (tgt := 71) dX11_tells_55 (by decide) (fun c33 => ?_) (fun c33 => ?_)
          · replace H := ite_m H c33
            refine x_aload_n dX11_tells_71 rfl 0 rfl ?_
            obtain ⟨c34, H⟩ := ko_o H
            obtain ⟨a35, c36, H⟩ := kr_o H
            refine x_getR fr_X11_59 dX11_tells_72 c34 rfl c36 ?_
            obtain ⟨c37, H⟩ := ko_o H
            refine x_getI fr_X11_306 dX11_tells_75 c37 rfl ?_
            refine Ex.sub [] rfl ?_
            exact t_X11_tells_78 hd H
          · replace H := ite_p H c33
            refine x_aload_n dX11_tells_58 rfl 0 rfl ?_
            obtain ⟨c38, H⟩ := ko_o H
            obtain ⟨a39, c40, H⟩ := kr_o H
            refine x_getR fr_X11_59 dX11_tells_59 c38 rfl c40 ?_
            obtain ⟨c41, H⟩ := ko_o H
            refine x_getI fr_X11_303 dX11_tells_62 c41 rfl ?_
            refine x_bipush (v := 64) dX11_tells_65 (by decide) ?_
            refine x_iadd dX11_tells_67 ?_
            refine x_goto (tgt := 78) dX11_tells_68 (by decide) ?_
            refine Ex.sub [] rfl ?_
            exact t_X11_tells_78 hd H
        · replace H := ite_p H c32
          refine x_iconst (v := (-1)) dX11_tells_52 (by decide) ?_
          obtain ⟨rfl, rfl⟩ := so_1 H
          exact x_iret dX11_tells_53 rfl rfl
      · replace H := ite_m H c6
        refine Ex.sub [] rfl ?_
        exact t_X11_tells_17 hd H
def f_X11_allocate (x0 : Nat) (x1 : Int32) (x2 : Int32) (h : aH) : Option (Unit × aH) :=
  ko h x0 10 <|
  kr (hR h x0 2) fun a2 =>
  kr (hR h x0 6) fun a4 =>
  ko h a4 1 <|
  ko h a2 9 <|
  bd (f_X9_addObject a2 (hI h a4 0) (hI h a4 1) (hI h a4 2) x2 h) fun _ h8 =>
  ko h8 x0 10 <|
  kr (hR h8 x0 2) fun a11 =>
  ko h8 a11 9 <|
  kr (hR h8 a11 0) fun a14 =>
  ka h8 a14 (.object RX6) fun n17 =>
  chk (inb x1 n17 = true) <|
  kr (hR h8 a14 x1.toNatClampNeg) fun a19 =>
  ko h8 a19 6 <|
  bd (f_X6_clear a19 1 h8) fun _ h22 =>
  ko h22 a19 6 <|
  ko h22 x0 10 <|
  kr (hR h22 x0 6) fun a26 =>
  ko h22 a26 1 <|
  nm (hI (sI h22 a19 1 1) a26 1) fun (v29 : Int32) =>
  nm (hI (sI (sI (sI h22 a19 1 1) a19 2 v29) a19 6 3) a26 1) fun (v30 : Int32) =>
  nm (hI (sI (sI (sI h22 a19 1 1) a19 2 v29) a19 6 3) a26 2) fun (v31 : Int32) =>
  kr (hR h22 x0 9) fun a32 =>
  ko h22 a32 4 <|
  nm (hI (sI (sI (sI h22 a19 1 1) a19 2 v29) a19 6 3) a32 2) fun (v35 : Int32) =>
  bd (f_X6_carry a19 v30 v31 v35 (sI (sI (sI h22 a19 1 1) a19 2 v29) a19 6 3)) fun _ h37 =>
  some ((), h37)
set_option maxRecDepth 100000 in
set_option maxHeartbeats 4000000 in
theorem t_X11_allocate {Γ : gS} {d : Nat} (hd : 4 ≤ d) {x0 : Nat} {x1 : Int32} {x2 : Int32} {h : aH} {r : Unit} {h' : aH} (H : f_X11_allocate x0 x1 x2 h = some (r, h')) : Mx Γ gX11_allocate d [.ref x0, .int x1, .int x2] h none h' := by
  refine Mx.of (by decide +kernel) (Nat.le_of_ble_eq_true rfl) ?_
  unfold f_X11_allocate at H
  show Ex Γ gX11_allocate d 0 [(0, .ref x0), (1, .int x1), (2, .int x2)] [] h none h'
  obtain ⟨d, rfl⟩ : ∃ e, d = e + 1 := ⟨d - 1, by omega⟩
  refine x_aload_n dX11_allocate_0 rfl 0 rfl ?_
  obtain ⟨c1, H⟩ := ko_o H
  obtain ⟨a2, c3, H⟩ := kr_o H
  refine x_getR fr_X11_20 dX11_allocate_1 c1 rfl c3 ?_
  refine x_aload_n dX11_allocate_4 rfl 0 rfl ?_
  obtain ⟨a4, c5, H⟩ := kr_o H
  refine x_getR fr_X11_52 dX11_allocate_5 c1 rfl c5 ?_
  obtain ⟨c6, H⟩ := ko_o H
  refine x_getI fr_X11_317 dX11_allocate_8 c6 rfl ?_
  refine x_aload_n dX11_allocate_11 rfl 0 rfl ?_
  refine x_getR fr_X11_52 dX11_allocate_12 c1 rfl c5 ?_
  refine x_getI fr_X11_280 dX11_allocate_15 c6 rfl ?_
  refine x_aload_n dX11_allocate_18 rfl 0 rfl ?_
  refine x_getR fr_X11_52 dX11_allocate_19 c1 rfl c5 ?_
  refine x_getI fr_X11_320 dX11_allocate_22 c6 rfl ?_
  refine x_iload_n dX11_allocate_25 rfl 2 rfl ?_
  obtain ⟨c40, H⟩ := ko_o H
  obtain ⟨v7, h8, hc9, H⟩ := bd_o H
  refine x_callVv (As := [.int (hI h a4 0), .int (hI h a4 1), .int (hI h a4 2), .int x2]) (q := (RX9, TX9, 8)) dX11_allocate_26 mi_X9_addObject lk_X11_323 im_X9_addObject se_X9_addObject rfl c40 rfl rfl (Nat.le_of_ble_eq_true rfl) (t_X9_addObject (by omega) hc9) ?_
  refine x_aload_n dX11_allocate_29 rfl 0 rfl ?_
  obtain ⟨c10, H⟩ := ko_o H
  obtain ⟨a11, c12, H⟩ := kr_o H
  refine x_getR fr_X11_20 dX11_allocate_30 c10 rfl c12 ?_
  obtain ⟨c13, H⟩ := ko_o H
  obtain ⟨a14, c15, H⟩ := kr_o H
  refine x_getR fr_X11_36 dX11_allocate_33 c13 rfl c15 ?_
  refine x_iload_n dX11_allocate_36 rfl 1 rfl ?_
  obtain ⟨n17, c16, H⟩ := ka_o H
  obtain ⟨c18, H⟩ := chk_o H
  obtain ⟨a19, c20, H⟩ := kr_o H
  refine x_aald dX11_allocate_37 c16 (by decide) (inb_in.mp c18) c20 ?_
  refine x_astore_n (lv' := [(3, .ref a19), (0, .ref x0), (1, .int x1), (2, .int x2)]) dX11_allocate_38 rfl (by decide) rfl rfl ?_
  refine x_aload_n dX11_allocate_39 rfl 0 rfl ?_
  refine x_iconst (v := 1) dX11_allocate_40 (by decide) ?_
  obtain ⟨c39, H⟩ := ko_o H
  obtain ⟨v21, h22, hc23, H⟩ := bd_o H
  refine x_callVv (As := [.int 1]) (q := (RX6, TX6, 8)) dX11_allocate_41 mi_X6_clear lk_X11_327 im_X6_clear se_X6_clear rfl c39 rfl rfl (Nat.le_of_ble_eq_true rfl) (t_X6_clear (by omega) hc23) ?_
  refine x_aload_n dX11_allocate_44 rfl 0 rfl ?_
  refine x_iconst (v := 1) dX11_allocate_45 (by decide) ?_
  obtain ⟨c24, H⟩ := ko_o H
  refine x_putZ fl_X11_143 dX11_allocate_46 c24 (fun e => by cases e) rfl (by decide) ?_
  refine x_aload_n dX11_allocate_49 rfl 0 rfl ?_
  refine x_aload_n dX11_allocate_50 rfl 1 rfl ?_
  obtain ⟨c25, H⟩ := ko_o H
  obtain ⟨a26, c27, H⟩ := kr_o H
  refine x_getR fr_X11_52 dX11_allocate_51 c25 rfl c27 ?_
  obtain ⟨c28, H⟩ := ko_o H
  obtain ⟨v29, ev29, H⟩ := nm_o H
  refine x_getIe fr_X11_280 dX11_allocate_54 c28 rfl ev29 ?_
  refine x_putI fl_X11_330 dX11_allocate_57 c24 (fun e => by cases e) rfl ?_
  refine x_aload_n dX11_allocate_60 rfl 0 rfl ?_
  refine x_iconst (v := 3) dX11_allocate_61 (by decide) ?_
  refine x_putI fl_X11_148 dX11_allocate_62 c24 (fun e => by cases e) rfl ?_
  refine x_aload_n dX11_allocate_65 rfl 0 rfl ?_
  refine x_aload_n dX11_allocate_66 rfl 1 rfl ?_
  refine x_getR fr_X11_52 dX11_allocate_67 c25 rfl c27 ?_
  obtain ⟨v30, ev30, H⟩ := nm_o H
  refine x_getIe fr_X11_280 dX11_allocate_70 c28 rfl ev30 ?_
  refine x_aload_n dX11_allocate_73 rfl 1 rfl ?_
  refine x_getR fr_X11_52 dX11_allocate_74 c25 rfl c27 ?_
  obtain ⟨v31, ev31, H⟩ := nm_o H
  refine x_getIe fr_X11_320 dX11_allocate_77 c28 rfl ev31 ?_
  refine x_aload_n dX11_allocate_80 rfl 1 rfl ?_
  obtain ⟨a32, c33, H⟩ := kr_o H
  refine x_getR fr_X11_73 dX11_allocate_81 c25 rfl c33 ?_
  obtain ⟨c34, H⟩ := ko_o H
  obtain ⟨v35, ev35, H⟩ := nm_o H
  refine x_getIe fr_X11_151 dX11_allocate_84 c34 rfl ev35 ?_
  obtain ⟨v36, h37, hc38, H⟩ := bd_o H
  refine x_callVv (As := [.int v30, .int v31, .int v35]) (q := (RX6, TX6, 8)) dX11_allocate_87 mi_X6_carry lk_X11_154 im_X6_carry se_X6_carry rfl c24 rfl rfl (Nat.le_of_ble_eq_true rfl) (t_X6_carry (by omega) hc38) ?_
  obtain ⟨-, rfl⟩ := so_1 H
  exact x_vret dX11_allocate_90 rfl
def f_X11_alloc_23 (x0 : Nat) (h : aH) : Option (Int32 × aH) :=
  ko h x0 10 <|
  bd (f_X11_refuse x0 2 h) fun v1 h2 =>
  some (v1, h2)
set_option maxRecDepth 100000 in
set_option maxHeartbeats 4000000 in
theorem t_X11_alloc_23 {Γ : gS} {d : Nat} (hd : 6 ≤ d) {x0 : Nat} {h : aH} {r : Int32} {h' : aH} (H : f_X11_alloc_23 x0 h = some (r, h')) : Ex Γ gX11_alloc d 23 [(0, .ref x0)] [] h (some (.int r)) h' := by
  unfold f_X11_alloc_23 at H
  obtain ⟨d, rfl⟩ : ∃ e, d = e + 1 := ⟨d - 1, by omega⟩
  refine x_aload_n dX11_alloc_23 rfl 0 rfl ?_
  refine x_iconst (v := 2) dX11_alloc_24 (by decide) ?_
  obtain ⟨c4, H⟩ := ko_o H
  obtain ⟨v1, h2, hc3, H⟩ := bd_o H
  refine x_callVi (As := [.int 2]) (q := (RX11, TX11, 17)) dX11_alloc_25 mi_X11_refuse lk_X11_107 im_X11_refuse se_X11_refuse rfl c4 rfl rfl (Nat.le_of_ble_eq_true rfl) (t_X11_refuse (by omega) hc3) ?_
  obtain ⟨rfl, rfl⟩ := so_1 H
  exact x_iret dX11_alloc_28 rfl rfl
def f_X11_alloc (x0 : Nat) (x1 : Int32) (x2 : Int32) (h : aH) : Option (Int32 × aH) :=
  ko h x0 10 <|
  bd (f_X11_isPointer x0 x1 h) fun v5 h6 =>
  if v5 = 0 then
    f_X11_alloc_23 x0 h6
  else
    ko h6 x0 10 <|
    kr (hR h6 x0 6) fun a10 =>
    kr (hR h6 x0 9) fun a12 =>
    ko h6 a10 1 <|
    bd (f_X1_search a10 a12 x2 h6) fun v14 h15 =>
    if v14 = 0 then
      f_X11_alloc_23 x0 h15
    else
      ko h15 x0 10 <|
      kr (hR h15 x0 4) fun a19 =>
      kr (hR h15 x0 2) fun a21 =>
      ko h15 a19 2 <|
      bd (f_X2_keep a19 a21 h15) fun _ h24 =>
      ko h24 x0 10 <|
      bd (f_X11_allocate x0 x1 x2 h24) fun _ h27 =>
      ko h27 x0 10 <|
      kr (hR h27 x0 6) fun a30 =>
      ko h27 a30 1 <|
      some (hI h27 a30 1, h27)
set_option maxRecDepth 100000 in
set_option maxHeartbeats 4000000 in
theorem t_X11_alloc {Γ : gS} {d : Nat} (hd : 6 ≤ d) {x0 : Nat} {x1 : Int32} {x2 : Int32} {h : aH} {r : Int32} {h' : aH} (H : f_X11_alloc x0 x1 x2 h = some (r, h')) : Mx Γ gX11_alloc d [.ref x0, .int x1, .int x2] h (some (.int r)) h' := by
  refine Mx.of (by decide +kernel) (Nat.le_of_ble_eq_true rfl) ?_
  unfold f_X11_alloc at H
  show Ex Γ gX11_alloc d 0 [(0, .ref x0), (1, .int x1), (2, .int x2)] [] h (some (.int r)) h'
  obtain ⟨d, rfl⟩ : ∃ e, d = e + 1 := ⟨d - 1, by omega⟩
  refine x_aload_n dX11_alloc_0 rfl 0 rfl ?_
  refine x_iload_n dX11_alloc_1 rfl 1 rfl ?_
  obtain ⟨c36, H⟩ := ko_o H
  obtain ⟨v5, h6, hc7, H⟩ := bd_o H
  refine x_callVi (As := [.int x1]) (q := (RX11, TX11, 17)) dX11_alloc_2 mi_X11_isPointer lk_X11_196 im_X11_isPointer se_X11_isPointer rfl c36 rfl rfl (Nat.le_of_ble_eq_true rfl) (t_X11_isPointer (by omega) hc7) ?_
  refine x_if_eq (tgt := 23) dX11_alloc_5 (by decide) (fun c8 => ?_) (fun c8 => ?_)
  · replace H := ite_p H c8
    refine Ex.sub [0] rfl ?_
    exact t_X11_alloc_23 hd H
  · replace H := ite_m H c8
    refine x_aload_n dX11_alloc_8 rfl 0 rfl ?_
    obtain ⟨c9, H⟩ := ko_o H
    obtain ⟨a10, c11, H⟩ := kr_o H
    refine x_getR fr_X11_52 dX11_alloc_9 c9 rfl c11 ?_
    refine x_aload_n dX11_alloc_12 rfl 0 rfl ?_
    obtain ⟨a12, c13, H⟩ := kr_o H
    refine x_getR fr_X11_73 dX11_alloc_13 c9 rfl c13 ?_
    refine x_iload_n dX11_alloc_16 rfl 2 rfl ?_
    obtain ⟨c35, H⟩ := ko_o H
    obtain ⟨v14, h15, hc16, H⟩ := bd_o H
    refine x_callVi (As := [.ref a12, .int x2]) (q := (RX1, TX1, 5)) dX11_alloc_17 mi_X1_search lk_X11_276 im_X1_search se_X1_search rfl c35 rfl rfl (Nat.le_of_ble_eq_true rfl) (t_X1_search (by omega) hc16) ?_
    refine x_if_ne (tgt := 29) dX11_alloc_20 (by decide) (fun c17 => ?_) (fun c17 => ?_)
    · replace H := ite_m H c17
      refine x_aload_n dX11_alloc_29 rfl 0 rfl ?_
      obtain ⟨c18, H⟩ := ko_o H
      obtain ⟨a19, c20, H⟩ := kr_o H
      refine x_getR fr_X11_30 dX11_alloc_30 c18 rfl c20 ?_
      refine x_aload_n dX11_alloc_33 rfl 0 rfl ?_
      obtain ⟨a21, c22, H⟩ := kr_o H
      refine x_getR fr_X11_20 dX11_alloc_34 c18 rfl c22 ?_
      obtain ⟨c34, H⟩ := ko_o H
      obtain ⟨v23, h24, hc25, H⟩ := bd_o H
      refine x_callVv (As := [.ref a21]) (q := (RX2, TX2, 3)) dX11_alloc_37 mi_X2_keep lk_X11_309 im_X2_keep se_X2_keep rfl c34 rfl rfl (Nat.le_of_ble_eq_true rfl) (t_X2_keep (by omega) hc25) ?_
      refine x_aload_n dX11_alloc_40 rfl 0 rfl ?_
      refine x_iload_n dX11_alloc_41 rfl 1 rfl ?_
      refine x_iload_n dX11_alloc_42 rfl 2 rfl ?_
      obtain ⟨c33, H⟩ := ko_o H
      obtain ⟨v26, h27, hc28, H⟩ := bd_o H
      refine x_callVv (As := [.int x1, .int x2]) (q := (RX11, TX11, 17)) dX11_alloc_43 mi_X11_allocate lk_X11_313 im_X11_allocate se_X11_allocate rfl c33 rfl rfl (Nat.le_of_ble_eq_true rfl) (t_X11_allocate (by omega) hc28) ?_
      refine x_aload_n dX11_alloc_46 rfl 0 rfl ?_
      obtain ⟨c29, H⟩ := ko_o H
      obtain ⟨a30, c31, H⟩ := kr_o H
      refine x_getR fr_X11_52 dX11_alloc_47 c29 rfl c31 ?_
      obtain ⟨c32, H⟩ := ko_o H
      refine x_getI fr_X11_280 dX11_alloc_50 c32 rfl ?_
      obtain ⟨rfl, rfl⟩ := so_1 H
      exact x_iret dX11_alloc_53 rfl rfl
    · replace H := ite_p H c17
      refine Ex.sub [0] rfl ?_
      exact t_X11_alloc_23 hd H
def f_X11_objectOf (x0 : Nat) (x1 : Int32) (h : aH) : Option (Int32 × aH) :=
  ko h x0 10 <|
  kr (hR h x0 2) fun a2 =>
  ko h a2 9 <|
  kr (hR h a2 0) fun a5 =>
  ka h a5 (.object RX6) fun n8 =>
  chk (inb x1 n8 = true) <|
  kr (hR h a5 x1.toNatClampNeg) fun a10 =>
  ko h a10 6 <|
  bd (f_X6_isUsable a10 h) fun v12 h13 =>
  if v12 = 0 then
    some ((-1), h13)
  else
    ko h13 x0 10 <|
    kr (hR h13 x0 2) fun a17 =>
    kr (hR h13 x0 9) fun a19 =>
    ko h13 a19 4 <|
    ko h13 a10 6 <|
    bd (f_X6_base a10 (hI h13 a19 2) h13) fun v22 h23 =>
    ko h23 x0 10 <|
    kr (hR h23 x0 9) fun a26 =>
    ko h23 a26 4 <|
    ko h23 a10 6 <|
    bd (f_X6_extent a10 (hI h23 a26 2) h23) fun v29 h30 =>
    ko h30 a17 9 <|
    bd (f_X9_objectWith a17 v22 v29 h30) fun v32 h33 =>
    some (v32, h33)
set_option maxRecDepth 100000 in
set_option maxHeartbeats 4000000 in
theorem t_X11_objectOf {Γ : gS} {d : Nat} (hd : 2 ≤ d) {x0 : Nat} {x1 : Int32} {h : aH} {r : Int32} {h' : aH} (H : f_X11_objectOf x0 x1 h = some (r, h')) : Mx Γ gX11_objectOf d [.ref x0, .int x1] h (some (.int r)) h' := by
  refine Mx.of (by decide +kernel) (Nat.le_of_ble_eq_true rfl) ?_
  unfold f_X11_objectOf at H
  show Ex Γ gX11_objectOf d 0 [(0, .ref x0), (1, .int x1)] [] h (some (.int r)) h'
  obtain ⟨d, rfl⟩ : ∃ e, d = e + 1 := ⟨d - 1, by omega⟩
  refine x_aload_n dX11_objectOf_0 rfl 0 rfl ?_
  obtain ⟨c1, H⟩ := ko_o H
  obtain ⟨a2, c3, H⟩ := kr_o H
  refine x_getR fr_X11_20 dX11_objectOf_1 c1 rfl c3 ?_
  obtain ⟨c4, H⟩ := ko_o H
  obtain ⟨a5, c6, H⟩ := kr_o H
  refine x_getR fr_X11_36 dX11_objectOf_4 c4 rfl c6 ?_
  refine x_iload_n dX11_objectOf_7 rfl 1 rfl ?_
  obtain ⟨n8, c7, H⟩ := ka_o H
  obtain ⟨c9, H⟩ := chk_o H
  obtain ⟨a10, c11, H⟩ := kr_o H
  refine x_aald dX11_objectOf_8 c7 (by decide) (inb_in.mp c9) c11 ?_
  refine x_astore_n (lv' := [(2, .ref a10), (0, .ref x0), (1, .int x1)]) dX11_objectOf_9 rfl (by decide) rfl rfl ?_
  refine x_aload_n dX11_objectOf_10 rfl 0 rfl ?_
  obtain ⟨c38, H⟩ := ko_o H
  obtain ⟨v12, h13, hc14, H⟩ := bd_o H
  refine x_callVi (As := []) (q := (RX6, TX6, 8)) dX11_objectOf_11 mi_X6_isUsable lk_X11_269 im_X6_isUsable se_X6_isUsable rfl c38 rfl rfl (Nat.le_of_ble_eq_true rfl) (t_X6_isUsable (by omega) hc14) ?_
  refine x_if_ne (tgt := 19) dX11_objectOf_14 (by decide) (fun c15 => ?_) (fun c15 => ?_)
  · replace H := ite_m H c15
    refine x_aload_n dX11_objectOf_19 rfl 1 rfl ?_
    obtain ⟨c16, H⟩ := ko_o H
    obtain ⟨a17, c18, H⟩ := kr_o H
    refine x_getR fr_X11_20 dX11_objectOf_20 c16 rfl c18 ?_
    refine x_aload_n dX11_objectOf_23 rfl 0 rfl ?_
    refine x_aload_n dX11_objectOf_24 rfl 1 rfl ?_
    obtain ⟨a19, c20, H⟩ := kr_o H
    refine x_getR fr_X11_73 dX11_objectOf_25 c16 rfl c20 ?_
    obtain ⟨c21, H⟩ := ko_o H
    refine x_getI fr_X11_151 dX11_objectOf_28 c21 rfl ?_
    obtain ⟨c37, H⟩ := ko_o H
    obtain ⟨v22, h23, hc24, H⟩ := bd_o H
    refine x_callVi (As := [.int (hI h13 a19 2)]) (q := (RX6, TX6, 8)) dX11_objectOf_31 mi_X6_base lk_X11_339 im_X6_base se_X6_base rfl c37 rfl rfl (Nat.le_of_ble_eq_true rfl) (t_X6_base (by omega) hc24) ?_
    refine x_aload_n dX11_objectOf_34 rfl 0 rfl ?_
    refine x_aload_n dX11_objectOf_35 rfl 1 rfl ?_
    obtain ⟨c25, H⟩ := ko_o H
    obtain ⟨a26, c27, H⟩ := kr_o H
    refine x_getR fr_X11_73 dX11_objectOf_36 c25 rfl c27 ?_
    obtain ⟨c28, H⟩ := ko_o H
    refine x_getI fr_X11_151 dX11_objectOf_39 c28 rfl ?_
    obtain ⟨c36, H⟩ := ko_o H
    obtain ⟨v29, h30, hc31, H⟩ := bd_o H
    refine x_callVi (As := [.int (hI h23 a26 2)]) (q := (RX6, TX6, 8)) dX11_objectOf_42 mi_X6_extent lk_X11_341 im_X6_extent se_X6_extent rfl c36 rfl rfl (Nat.le_of_ble_eq_true rfl) (t_X6_extent (by omega) hc31) ?_
    obtain ⟨c35, H⟩ := ko_o H
    obtain ⟨v32, h33, hc34, H⟩ := bd_o H
    refine x_callVi (As := [.int v22, .int v29]) (q := (RX9, TX9, 8)) dX11_objectOf_45 mi_X9_objectWith lk_X11_344 im_X9_objectWith se_X9_objectWith rfl c35 rfl rfl (Nat.le_of_ble_eq_true rfl) (t_X9_objectWith (by omega) hc34) ?_
    obtain ⟨rfl, rfl⟩ := so_1 H
    exact x_iret dX11_objectOf_48 rfl rfl
  · replace H := ite_p H c15
    refine x_iconst (v := (-1)) dX11_objectOf_17 (by decide) ?_
    obtain ⟨rfl, rfl⟩ := so_1 H
    exact x_iret dX11_objectOf_18 rfl rfl
def f_X11_free_17 (x0 : Nat) (s0 : Int32) (h : aH) : Option (Int32 × aH) :=
  if s0 = (-1) then
    ko h x0 10 <|
    bd (f_X11_refuse x0 2 h) fun v28 h29 =>
    some (v28, h29)
  else
    ko h x0 10 <|
    kr (hR h x0 2) fun a3 =>
    ko h a3 9 <|
    kr (hR h a3 2) fun a6 =>
    ka h a6 .int fun n9 =>
    chk (inb s0 n9 = true) <|
    nm (hI h a6 s0.toNatClampNeg) fun (v11 : Int32) =>
    kr (hR h x0 4) fun a12 =>
    ko h a12 2 <|
    bd (f_X2_keep a12 a3 h) fun _ h15 =>
    ko h15 x0 10 <|
    kr (hR h15 x0 2) fun a18 =>
    kr (hR h15 x0 9) fun a20 =>
    ko h15 a20 4 <|
    ko h15 a18 9 <|
    bd (f_X9_removeObject a18 s0 (hI h15 a20 2) h15) fun _ h24 =>
    some (v11, h24)
set_option maxRecDepth 100000 in
set_option maxHeartbeats 4000000 in
theorem t_X11_free_17 {Γ : gS} {d : Nat} (hd : 4 ≤ d) {x0 : Nat} {s0 : Int32} {h : aH} {r : Int32} {h' : aH} (H : f_X11_free_17 x0 s0 h = some (r, h')) : Ex Γ gX11_free d 17 [(0, .ref x0)] [.int s0] h (some (.int r)) h' := by
  unfold f_X11_free_17 at H
  obtain ⟨d, rfl⟩ : ∃ e, d = e + 1 := ⟨d - 1, by omega⟩
  refine x_istore_n (lv' := [(2, .int s0), (0, .ref x0)]) dX11_free_17 rfl (by decide) rfl rfl ?_
  refine x_iload_n dX11_free_18 rfl 0 rfl ?_
  refine x_iconst (v := (-1)) dX11_free_19 (by decide) ?_
  refine x_icmp_ne (tgt := 29) dX11_free_20 (by decide) (fun c1 => ?_) (fun c1 => ?_)
  · replace H := ite_m H c1
    refine x_aload_n dX11_free_29 rfl 1 rfl ?_
    obtain ⟨c2, H⟩ := ko_o H
    obtain ⟨a3, c4, H⟩ := kr_o H
    refine x_getR fr_X11_20 dX11_free_30 c2 rfl c4 ?_
    obtain ⟨c5, H⟩ := ko_o H
    obtain ⟨a6, c7, H⟩ := kr_o H
    refine x_getR fr_X11_216 dX11_free_33 c5 rfl c7 ?_
    refine x_iload_n dX11_free_36 rfl 0 rfl ?_
    obtain ⟨n9, c8, H⟩ := ka_o H
    obtain ⟨c10, H⟩ := chk_o H
    refine x_iald dX11_free_37 c8 (inb_in.mp c10) ?_
    obtain ⟨v11, ev11, H⟩ := nm_o H
    refine x_istore_n (lv' := [(3, .int v11), (2, .int s0), (0, .ref x0)]) dX11_free_38 rfl (by decide) ev11 rfl ?_
    refine x_aload_n dX11_free_39 rfl 2 rfl ?_
    obtain ⟨a12, c13, H⟩ := kr_o H
    refine x_getR fr_X11_30 dX11_free_40 c2 rfl c13 ?_
    refine x_aload_n dX11_free_43 rfl 2 rfl ?_
    refine x_getR fr_X11_20 dX11_free_44 c2 rfl c4 ?_
    obtain ⟨c27, H⟩ := ko_o H
    obtain ⟨v14, h15, hc16, H⟩ := bd_o H
    refine x_callVv (As := [.ref a3]) (q := (RX2, TX2, 3)) dX11_free_47 mi_X2_keep lk_X11_309 im_X2_keep se_X2_keep rfl c27 rfl rfl (Nat.le_of_ble_eq_true rfl) (t_X2_keep (by omega) hc16) ?_
    refine x_aload_n dX11_free_50 rfl 2 rfl ?_
    obtain ⟨c17, H⟩ := ko_o H
    obtain ⟨a18, c19, H⟩ := kr_o H
    refine x_getR fr_X11_20 dX11_free_51 c17 rfl c19 ?_
    refine x_iload_n dX11_free_54 rfl 1 rfl ?_
    refine x_aload_n dX11_free_55 rfl 2 rfl ?_
    obtain ⟨a20, c21, H⟩ := kr_o H
    refine x_getR fr_X11_73 dX11_free_56 c17 rfl c21 ?_
    obtain ⟨c22, H⟩ := ko_o H
    refine x_getI fr_X11_151 dX11_free_59 c22 rfl ?_
    obtain ⟨c26, H⟩ := ko_o H
    obtain ⟨v23, h24, hc25, H⟩ := bd_o H
    refine x_callVv (As := [.int s0, .int (hI h15 a20 2)]) (q := (RX9, TX9, 8)) dX11_free_62 mi_X9_removeObject lk_X11_336 im_X9_removeObject se_X9_removeObject rfl c26 rfl rfl (Nat.le_of_ble_eq_true rfl) (t_X9_removeObject (by omega) hc25) ?_
    refine x_iload_n dX11_free_65 rfl 0 rfl ?_
    obtain ⟨rfl, rfl⟩ := so_1 H
    exact x_iret dX11_free_66 rfl rfl
  · replace H := ite_p H c1
    refine x_aload_n dX11_free_23 rfl 1 rfl ?_
    refine x_iconst (v := 2) dX11_free_24 (by decide) ?_
    obtain ⟨c31, H⟩ := ko_o H
    obtain ⟨v28, h29, hc30, H⟩ := bd_o H
    refine x_callVi (As := [.int 2]) (q := (RX11, TX11, 17)) dX11_free_25 mi_X11_refuse lk_X11_107 im_X11_refuse se_X11_refuse rfl c31 rfl rfl (Nat.le_of_ble_eq_true rfl) (t_X11_refuse (by omega) hc30) ?_
    obtain ⟨rfl, rfl⟩ := so_1 H
    exact x_iret dX11_free_28 rfl rfl
def f_X11_free (x0 : Nat) (x1 : Int32) (h : aH) : Option (Int32 × aH) :=
  ko h x0 10 <|
  bd (f_X11_isPointer x0 x1 h) fun v32 h33 =>
  if v32 = 0 then
    f_X11_free_17 x0 (-1) h33
  else
    ko h33 x0 10 <|
    bd (f_X11_objectOf x0 x1 h33) fun v36 h37 =>
    f_X11_free_17 x0 v36 h37
set_option maxRecDepth 100000 in
set_option maxHeartbeats 4000000 in
theorem t_X11_free {Γ : gS} {d : Nat} (hd : 4 ≤ d) {x0 : Nat} {x1 : Int32} {h : aH} {r : Int32} {h' : aH} (H : f_X11_free x0 x1 h = some (r, h')) : Mx Γ gX11_free d [.ref x0, .int x1] h (some (.int r)) h' := by
  refine Mx.of (by decide +kernel) (Nat.le_of_ble_eq_true rfl) ?_
  unfold f_X11_free at H
  show Ex Γ gX11_free d 0 [(0, .ref x0), (1, .int x1)] [] h (some (.int r)) h'
  obtain ⟨d, rfl⟩ : ∃ e, d = e + 1 := ⟨d - 1, by omega⟩
  refine x_aload_n dX11_free_0 rfl 0 rfl ?_
  refine x_iload_n dX11_free_1 rfl 1 rfl ?_
  obtain ⟨c40, H⟩ := ko_o H
  obtain ⟨v32, h33, hc34, H⟩ := bd_o H
  refine x_callVi (As := [.int x1]) (q := (RX11, TX11, 17)) dX11_free_2 mi_X11_isPointer lk_X11_196 im_X11_isPointer se_X11_isPointer rfl c40 rfl rfl (Nat.le_of_ble_eq_true rfl) (t_X11_isPointer (by omega) hc34) ?_
  refine x_if_eq (tgt := 16) dX11_free_5 (by decide) (fun c35 => ?_) (fun c35 => ?_)
  · replace H := ite_p H c35
    refine x_iconst (v := (-1)) dX11_free_16 (by decide) ?_
    refine Ex.sub [0] rfl ?_
    exact t_X11_free_17 hd H
  · replace H := ite_m H c35
    refine x_aload_n dX11_free_8 rfl 0 rfl ?_
    refine x_iload_n dX11_free_9 rfl 1 rfl ?_
    obtain ⟨c39, H⟩ := ko_o H
    obtain ⟨v36, h37, hc38, H⟩ := bd_o H
    refine x_callVi (As := [.int x1]) (q := (RX11, TX11, 17)) dX11_free_10 mi_X11_objectOf lk_X11_333 im_X11_objectOf se_X11_objectOf rfl c39 rfl rfl (Nat.le_of_ble_eq_true rfl) (t_X11_objectOf (by omega) hc38) ?_
    refine x_goto (tgt := 17) dX11_free_13 (by decide) ?_
    refine Ex.sub [0] rfl ?_
    exact t_X11_free_17 hd H
def f_X11_copy_21 (x0 : Nat) (h : aH) : Option (Int32 × aH) :=
  ko h x0 10 <|
  bd (f_X11_deny x0 3 h) fun v1 h2 =>
  chk (narrow .boolean (.int v1) = .int v1) <|
  some (v1, h2)
set_option maxRecDepth 100000 in
set_option maxHeartbeats 4000000 in
theorem t_X11_copy_21 {Γ : gS} {d : Nat} (hd : 4 ≤ d) {x0 : Nat} {h : aH} {r : Int32} {h' : aH} (H : f_X11_copy_21 x0 h = some (r, h')) : Ex Γ gX11_copy d 21 [(0, .ref x0)] [] h (some (.int r)) h' := by
  unfold f_X11_copy_21 at H
  obtain ⟨d, rfl⟩ : ∃ e, d = e + 1 := ⟨d - 1, by omega⟩
  refine x_aload_n dX11_copy_21 rfl 0 rfl ?_
  refine x_iconst (v := 3) dX11_copy_22 (by decide) ?_
  obtain ⟨c5, H⟩ := ko_o H
  obtain ⟨v1, h2, hc3, H⟩ := bd_o H
  refine x_callVi (As := [.int 3]) (q := (RX11, TX11, 17)) dX11_copy_23 mi_X11_deny lk_X11_115 im_X11_deny se_X11_deny rfl c5 rfl rfl (Nat.le_of_ble_eq_true rfl) (t_X11_deny (by omega) hc3) ?_
  obtain ⟨c4, H⟩ := chk_o H
  obtain ⟨rfl, rfl⟩ := so_1 H
  exact x_iret dX11_copy_26 rfl c4
def f_X11_copy (x0 : Nat) (x1 : Int32) (x2 : Int32) (h : aH) : Option (Int32 × aH) :=
  ko h x0 10 <|
  bd (f_X11_isPointer x0 x1 h) fun v6 h7 =>
  if v6 = 0 then
    f_X11_copy_21 x0 h7
  else
    ko h7 x0 10 <|
    bd (f_X11_isPointer x0 x2 h7) fun v10 h11 =>
    if v10 = 0 then
      f_X11_copy_21 x0 h11
    else
      if x1 = x2 then
        f_X11_copy_21 x0 h11
      else
        ko h11 x0 10 <|
        kr (hR h11 x0 4) fun a16 =>
        kr (hR h11 x0 2) fun a18 =>
        ko h11 a16 2 <|
        bd (f_X2_keep a16 a18 h11) fun _ h21 =>
        ko h21 x0 10 <|
        kr (hR h21 x0 2) fun a24 =>
        ko h21 a24 9 <|
        kr (hR h21 a24 0) fun a27 =>
        ka h21 a27 (.object RX6) fun n30 =>
        chk (inb x2 n30 = true) <|
        kr (hR h21 a27 x2.toNatClampNeg) fun a32 =>
        chk (inb x1 n30 = true) <|
        kr (hR h21 a27 x1.toNatClampNeg) fun a35 =>
        ko h21 a32 6 <|
        bd (f_X6_become a32 a35 h21) fun _ h38 =>
        some (1, h38)
set_option maxRecDepth 100000 in
set_option maxHeartbeats 4000000 in
theorem t_X11_copy {Γ : gS} {d : Nat} (hd : 4 ≤ d) {x0 : Nat} {x1 : Int32} {x2 : Int32} {h : aH} {r : Int32} {h' : aH} (H : f_X11_copy x0 x1 x2 h = some (r, h')) : Mx Γ gX11_copy d [.ref x0, .int x1, .int x2] h (some (.int r)) h' := by
  refine Mx.of (by decide +kernel) (Nat.le_of_ble_eq_true rfl) ?_
  unfold f_X11_copy at H
  show Ex Γ gX11_copy d 0 [(0, .ref x0), (1, .int x1), (2, .int x2)] [] h (some (.int r)) h'
  obtain ⟨d, rfl⟩ : ∃ e, d = e + 1 := ⟨d - 1, by omega⟩
  refine x_aload_n dX11_copy_0 rfl 0 rfl ?_
  refine x_iload_n dX11_copy_1 rfl 1 rfl ?_
  obtain ⟨c43, H⟩ := ko_o H
  obtain ⟨v6, h7, hc8, H⟩ := bd_o H
  refine x_callVi (As := [.int x1]) (q := (RX11, TX11, 17)) dX11_copy_2 mi_X11_isPointer lk_X11_196 im_X11_isPointer se_X11_isPointer rfl c43 rfl rfl (Nat.le_of_ble_eq_true rfl) (t_X11_isPointer (by omega) hc8) ?_
  refine x_if_eq (tgt := 21) dX11_copy_5 (by decide) (fun c9 => ?_) (fun c9 => ?_)
  · replace H := ite_p H c9
    refine Ex.sub [0] rfl ?_
    exact t_X11_copy_21 hd H
  · replace H := ite_m H c9
    refine x_aload_n dX11_copy_8 rfl 0 rfl ?_
    refine x_iload_n dX11_copy_9 rfl 2 rfl ?_
    obtain ⟨c42, H⟩ := ko_o H
    obtain ⟨v10, h11, hc12, H⟩ := bd_o H
    refine x_callVi (As := [.int x2]) (q := (RX11, TX11, 17)) dX11_copy_10 mi_X11_isPointer lk_X11_196 im_X11_isPointer se_X11_isPointer rfl c42 rfl rfl (Nat.le_of_ble_eq_true rfl) (t_X11_isPointer (by omega) hc12) ?_
    refine x_if_eq (tgt := 21) dX11_copy_13 (by decide) (fun c13 => ?_) (fun c13 => ?_)
    · replace H := ite_p H c13
      refine Ex.sub [0] rfl ?_
      exact t_X11_copy_21 hd H
    · replace H := ite_m H c13
      refine x_iload_n dX11_copy_16 rfl 1 rfl ?_
      refine x_iload_n dX11_copy_17 rfl 2 rfl ?_
      refine x_icmp_ne (tgt := 27) dX11_copy_18 (by decide) (fun c14 => ?_) (fun c14 => ?_)
      · replace H := ite_m H c14
        refine x_aload_n dX11_copy_27 rfl 0 rfl ?_
        obtain ⟨c15, H⟩ := ko_o H
        obtain ⟨a16, c17, H⟩ := kr_o H
        refine x_getR fr_X11_30 dX11_copy_28 c15 rfl c17 ?_
        refine x_aload_n dX11_copy_31 rfl 0 rfl ?_
        obtain ⟨a18, c19, H⟩ := kr_o H
        refine x_getR fr_X11_20 dX11_copy_32 c15 rfl c19 ?_
        obtain ⟨c41, H⟩ := ko_o H
        obtain ⟨v20, h21, hc22, H⟩ := bd_o H
        refine x_callVv (As := [.ref a18]) (q := (RX2, TX2, 3)) dX11_copy_35 mi_X2_keep lk_X11_309 im_X2_keep se_X2_keep rfl c41 rfl rfl (Nat.le_of_ble_eq_true rfl) (t_X2_keep (by omega) hc22) ?_
        refine x_aload_n dX11_copy_38 rfl 0 rfl ?_
        obtain ⟨c23, H⟩ := ko_o H
        obtain ⟨a24, c25, H⟩ := kr_o H
        refine x_getR fr_X11_20 dX11_copy_39 c23 rfl c25 ?_
        obtain ⟨c26, H⟩ := ko_o H
        obtain ⟨a27, c28, H⟩ := kr_o H
        refine x_getR fr_X11_36 dX11_copy_42 c26 rfl c28 ?_
        refine x_iload_n dX11_copy_45 rfl 2 rfl ?_
        obtain ⟨n30, c29, H⟩ := ka_o H
        obtain ⟨c31, H⟩ := chk_o H
        obtain ⟨a32, c33, H⟩ := kr_o H
        refine x_aald dX11_copy_46 c29 (by decide) (inb_in.mp c31) c33 ?_
        refine x_aload_n dX11_copy_47 rfl 0 rfl ?_
        refine x_getR fr_X11_20 dX11_copy_48 c23 rfl c25 ?_
        refine x_getR fr_X11_36 dX11_copy_51 c26 rfl c28 ?_
        refine x_iload_n dX11_copy_54 rfl 1 rfl ?_
        obtain ⟨c34, H⟩ := chk_o H
        obtain ⟨a35, c36, H⟩ := kr_o H
        refine x_aald dX11_copy_55 c29 (by decide) (inb_in.mp c34) c36 ?_
        obtain ⟨c40, H⟩ := ko_o H
        obtain ⟨v37, h38, hc39, H⟩ := bd_o H
        refine x_callVv (As := [.ref a35]) (q := (RX6, TX6, 8)) dX11_copy_56 mi_X6_become lk_X11_347 im_X6_become se_X6_become rfl c40 rfl rfl (Nat.le_of_ble_eq_true rfl) (t_X6_become (by omega) hc39) ?_
        refine x_iconst (v := 1) dX11_copy_59 (by decide) ?_
        obtain ⟨rfl, rfl⟩ := so_1 H
        exact x_iret dX11_copy_60 rfl (by decide)
      · replace H := ite_p H c14
        refine Ex.sub [0] rfl ?_
        exact t_X11_copy_21 hd H
def f_X11_move_30 (x0 : Nat) (h : aH) : Option (Int32 × aH) :=
  ko h x0 10 <|
  bd (f_X11_deny x0 3 h) fun v1 h2 =>
  chk (narrow .boolean (.int v1) = .int v1) <|
  some (v1, h2)
set_option maxRecDepth 100000 in
set_option maxHeartbeats 4000000 in
theorem t_X11_move_30 {Γ : gS} {d : Nat} (hd : 4 ≤ d) {x0 : Nat} {h : aH} {r : Int32} {h' : aH} (H : f_X11_move_30 x0 h = some (r, h')) : Ex Γ gX11_move d 30 [(0, .ref x0)] [] h (some (.int r)) h' := by
  unfold f_X11_move_30 at H
  obtain ⟨d, rfl⟩ : ∃ e, d = e + 1 := ⟨d - 1, by omega⟩
  refine x_aload_n dX11_move_30 rfl 0 rfl ?_
  refine x_iconst (v := 3) dX11_move_31 (by decide) ?_
  obtain ⟨c5, H⟩ := ko_o H
  obtain ⟨v1, h2, hc3, H⟩ := bd_o H
  refine x_callVi (As := [.int 3]) (q := (RX11, TX11, 17)) dX11_move_32 mi_X11_deny lk_X11_115 im_X11_deny se_X11_deny rfl c5 rfl rfl (Nat.le_of_ble_eq_true rfl) (t_X11_deny (by omega) hc3) ?_
  obtain ⟨c4, H⟩ := chk_o H
  obtain ⟨rfl, rfl⟩ := so_1 H
  exact x_iret dX11_move_35 rfl c4
def f_X11_move_123 (x3 : Nat) (h : aH) : Option (Int32 × aH) :=
  ko h x3 6 <|
  chk (narrow .boolean (.int (hI h x3 1)) = .int (hI h x3 1)) <|
  some (hI h x3 1, h)
set_option maxRecDepth 100000 in
set_option maxHeartbeats 4000000 in
theorem t_X11_move_123 {Γ : gS} {d : Nat} (hd : 4 ≤ d) {x3 : Nat} {h : aH} {r : Int32} {h' : aH} (H : f_X11_move_123 x3 h = some (r, h')) : Ex Γ gX11_move d 123 [(3, .ref x3)] [] h (some (.int r)) h' := by
  unfold f_X11_move_123 at H
  obtain ⟨d, rfl⟩ : ∃ e, d = e + 1 := ⟨d - 1, by omega⟩
  refine x_aload_n dX11_move_123 rfl 0 rfl ?_
  obtain ⟨c6, H⟩ := ko_o H
  refine x_getI fr_X11_143 dX11_move_124 c6 rfl ?_
  obtain ⟨c7, H⟩ := chk_o H
  obtain ⟨rfl, rfl⟩ := so_1 H
  exact x_iret dX11_move_127 rfl c7
def f_X11_move_84 (x0 : Nat) (x1 : Int32) (x2 : Int32) (x3 : Nat) (s0 : Int32) (h : aH) : Option (Int32 × aH) :=
  ko h x3 6 <|
  if s0 = 0 then
    f_X11_move_123 x3 (sI h x3 2 (((hI h x3 2) + x2) &&& 4095))
  else
    ko h x0 10 <|
    kr (hR h x0 2) fun a11 =>
    nm (hI (sI (sI h x3 2 (((hI h x3 2) + x2) &&& 4095)) x3 1 0) x3 2) fun (v13 : Int32) =>
    ko h a11 9 <|
    bd (f_X9_note a11 2 x1 v13 (sI (sI h x3 2 (((hI h x3 2) + x2) &&& 4095)) x3 1 0)) fun _ h15 =>
    f_X11_move_123 x3 h15
set_option maxRecDepth 100000 in
set_option maxHeartbeats 4000000 in
theorem t_X11_move_84 {Γ : gS} {d : Nat} (hd : 4 ≤ d) {x0 : Nat} {x1 : Int32} {x2 : Int32} {x3 : Nat} {s0 : Int32} {h : aH} {r : Int32} {h' : aH} (H : f_X11_move_84 x0 x1 x2 x3 s0 h = some (r, h')) : Ex Γ gX11_move d 84 [(0, .ref x0), (1, .int x1), (2, .int x2), (3, .ref x3)] [.int s0] h (some (.int r)) h' := by
  unfold f_X11_move_84 at H
  obtain ⟨d, rfl⟩ : ∃ e, d = e + 1 := ⟨d - 1, by omega⟩
  refine x_istore (lv' := [(4, .int s0), (0, .ref x0), (1, .int x1), (2, .int x2), (3, .ref x3)]) dX11_move_84 (by decide) rfl rfl ?_
  refine x_aload_n dX11_move_86 rfl 4 rfl ?_
  refine x_aload_n dX11_move_87 rfl 4 rfl ?_
  obtain ⟨c8, H⟩ := ko_o H
  refine x_getI fr_X11_330 dX11_move_88 c8 rfl ?_
  refine x_iload_n dX11_move_91 rfl 3 rfl ?_
  refine x_iadd dX11_move_92 ?_
  refine x_sipush (v := 4095) dX11_move_93 (by decide) ?_
  refine x_iand dX11_move_96 ?_
  refine x_putI fl_X11_330 dX11_move_97 c8 (fun e => by cases e) rfl ?_
  refine x_iload dX11_move_100 0 rfl ?_
  refine x_if_eq (tgt := 123) dX11_move_102 (by decide) (fun c9 => ?_) (fun c9 => ?_)
  · replace H := ite_p H c9
    refine Ex.sub [4] rfl ?_
    exact t_X11_move_123 hd H
  · replace H := ite_m H c9
    refine x_aload_n dX11_move_105 rfl 4 rfl ?_
    refine x_iconst (v := 0) dX11_move_106 (by decide) ?_
    refine x_putZ fl_X11_143 dX11_move_107 c8 (fun e => by cases e) rfl (by decide) ?_
    refine x_aload_n dX11_move_110 rfl 1 rfl ?_
    obtain ⟨c10, H⟩ := ko_o H
    obtain ⟨a11, c12, H⟩ := kr_o H
    refine x_getR fr_X11_20 dX11_move_111 c10 rfl c12 ?_
    refine x_iconst (v := 2) dX11_move_114 (by decide) ?_
    refine x_iload_n dX11_move_115 rfl 2 rfl ?_
    refine x_aload_n dX11_move_116 rfl 4 rfl ?_
    obtain ⟨v13, ev13, H⟩ := nm_o H
    refine x_getIe fr_X11_330 dX11_move_117 c8 rfl ev13 ?_
    obtain ⟨c17, H⟩ := ko_o H
    obtain ⟨v14, h15, hc16, H⟩ := bd_o H
    refine x_callVv (As := [.int 2, .int x1, .int v13]) (q := (RX9, TX9, 8)) dX11_move_120 mi_X9_note lk_X11_354 im_X9_note se_X9_note rfl c17 rfl rfl (Nat.le_of_ble_eq_true rfl) (t_X9_note (by omega) hc16) ?_
    refine Ex.sub [4] rfl ?_
    exact t_X11_move_123 hd H
def f_X11_move_83 (x0 : Nat) (x1 : Int32) (x2 : Int32) (x3 : Nat) (h : aH) : Option (Int32 × aH) :=
  f_X11_move_84 x0 x1 x2 x3 0 h
set_option maxRecDepth 100000 in
set_option maxHeartbeats 4000000 in
theorem t_X11_move_83 {Γ : gS} {d : Nat} (hd : 4 ≤ d) {x0 : Nat} {x1 : Int32} {x2 : Int32} {x3 : Nat} {h : aH} {r : Int32} {h' : aH} (H : f_X11_move_83 x0 x1 x2 x3 h = some (r, h')) : Ex Γ gX11_move d 83 [(0, .ref x0), (1, .int x1), (2, .int x2), (3, .ref x3)] [] h (some (.int r)) h' := by
  unfold f_X11_move_83 at H
  obtain ⟨d, rfl⟩ : ∃ e, d = e + 1 := ⟨d - 1, by omega⟩
  refine x_iconst (v := 0) dX11_move_83 (by decide) ?_
  exact t_X11_move_84 hd H
def f_X11_move (x0 : Nat) (x1 : Int32) (x2 : Int32) (h : aH) : Option (Int32 × aH) :=
  ko h x0 10 <|
  bd (f_X11_isPointer x0 x1 h) fun v18 h19 =>
  if v18 = 0 then
    f_X11_move_30 x0 h19
  else
    bd (f_X11_isStep x2 h19) fun v22 h23 =>
    if v22 = 0 then
      f_X11_move_30 x0 h23
    else
      ko h23 x0 10 <|
      kr (hR h23 x0 2) fun a27 =>
      ko h23 a27 9 <|
      kr (hR h23 a27 0) fun a30 =>
      ka h23 a30 (.object RX6) fun n33 =>
      chk (inb x1 n33 = true) <|
      kr (hR h23 a30 x1.toNatClampNeg) fun a35 =>
      ko h23 a35 6 <|
      if (hI h23 a35 7) = 0 then
        kr (hR h23 x0 4) fun a39 =>
        ko h23 a39 2 <|
        bd (f_X2_keep a39 a27 h23) fun _ h42 =>
        ko h42 x0 10 <|
        kr (hR h42 x0 2) fun a45 =>
        ko h42 a45 9 <|
        kr (hR h42 a45 0) fun a48 =>
        ka h42 a48 (.object RX6) fun n51 =>
        chk (inb x1 n51 = true) <|
        kr (hR h42 a48 x1.toNatClampNeg) fun a53 =>
        ko h42 a53 6 <|
        if (hI h42 a53 1) = 0 then
          f_X11_move_83 x0 x1 x2 a53 h42
        else
          kr (hR h42 x0 9) fun a57 =>
          ko h42 a57 4 <|
          bd (f_X6_keepsBounds a53 x2 (hI h42 a57 2) h42) fun v60 h61 =>
          if v60 = 0 then
            f_X11_move_84 x0 x1 x2 a53 1 h61
          else
            f_X11_move_83 x0 x1 x2 a53 h61
      else
        f_X11_move_30 x0 h23
set_option maxRecDepth 100000 in
set_option maxHeartbeats 4000000 in
theorem t_X11_move {Γ : gS} {d : Nat} (hd : 4 ≤ d) {x0 : Nat} {x1 : Int32} {x2 : Int32} {h : aH} {r : Int32} {h' : aH} (H : f_X11_move x0 x1 x2 h = some (r, h')) : Mx Γ gX11_move d [.ref x0, .int x1, .int x2] h (some (.int r)) h' := by
  refine Mx.of (by decide +kernel) (Nat.le_of_ble_eq_true rfl) ?_
  unfold f_X11_move at H
  show Ex Γ gX11_move d 0 [(0, .ref x0), (1, .int x1), (2, .int x2)] [] h (some (.int r)) h'
  obtain ⟨d, rfl⟩ : ∃ e, d = e + 1 := ⟨d - 1, by omega⟩
  refine x_aload_n dX11_move_0 rfl 0 rfl ?_
  refine x_iload_n dX11_move_1 rfl 1 rfl ?_
  obtain ⟨c65, H⟩ := ko_o H
  obtain ⟨v18, h19, hc20, H⟩ := bd_o H
  refine x_callVi (As := [.int x1]) (q := (RX11, TX11, 17)) dX11_move_2 mi_X11_isPointer lk_X11_196 im_X11_isPointer se_X11_isPointer rfl c65 rfl rfl (Nat.le_of_ble_eq_true rfl) (t_X11_isPointer (by omega) hc20) ?_
  refine x_if_eq (tgt := 30) dX11_move_5 (by decide) (fun c21 => ?_) (fun c21 => ?_)
  · replace H := ite_p H c21
    refine Ex.sub [0] rfl ?_
    exact t_X11_move_30 hd H
  · replace H := ite_m H c21
    refine x_iload_n dX11_move_8 rfl 2 rfl ?_
    obtain ⟨v22, h23, hc24, H⟩ := bd_o H
    refine x_callSi (As := [.int x2]) dX11_move_9 mi_X11_isStep lk_X11_254 sm_X11_isStep rfl rfl (Nat.le_of_ble_eq_true rfl) (t_X11_isStep (by omega) hc24) ?_
    refine x_if_eq (tgt := 30) dX11_move_12 (by decide) (fun c25 => ?_) (fun c25 => ?_)
    · replace H := ite_p H c25
      refine Ex.sub [0] rfl ?_
      exact t_X11_move_30 hd H
    · replace H := ite_m H c25
      refine x_aload_n dX11_move_15 rfl 0 rfl ?_
      obtain ⟨c26, H⟩ := ko_o H
      obtain ⟨a27, c28, H⟩ := kr_o H
      refine x_getR fr_X11_20 dX11_move_16 c26 rfl c28 ?_
      obtain ⟨c29, H⟩ := ko_o H
      obtain ⟨a30, c31, H⟩ := kr_o H
      refine x_getR fr_X11_36 dX11_move_19 c29 rfl c31 ?_
      refine x_iload_n dX11_move_22 rfl 1 rfl ?_
      obtain ⟨n33, c32, H⟩ := ka_o H
      obtain ⟨c34, H⟩ := chk_o H
      obtain ⟨a35, c36, H⟩ := kr_o H
      refine x_aald dX11_move_23 c32 (by decide) (inb_in.mp c34) c36 ?_
      obtain ⟨c37, H⟩ := ko_o H
      refine x_getI fr_X11_351 dX11_move_24 c37 rfl ?_
      refine x_if_eq (tgt := 36) dX11_move_27 (by decide) (fun c38 => ?_) (fun c38 => ?_)
      · replace H := ite_p H c38
        refine x_aload_n dX11_move_36 rfl 0 rfl ?_
        obtain ⟨a39, c40, H⟩ := kr_o H
        refine x_getR fr_X11_30 dX11_move_37 c26 rfl c40 ?_
        refine x_aload_n dX11_move_40 rfl 0 rfl ?_
        refine x_getR fr_X11_20 dX11_move_41 c26 rfl c28 ?_
        obtain ⟨c64, H⟩ := ko_o H
        obtain ⟨v41, h42, hc43, H⟩ := bd_o H
        refine x_callVv (As := [.ref a27]) (q := (RX2, TX2, 3)) dX11_move_44 mi_X2_keep lk_X11_309 im_X2_keep se_X2_keep rfl c64 rfl rfl (Nat.le_of_ble_eq_true rfl) (t_X2_keep (by omega) hc43) ?_
        refine x_aload_n dX11_move_47 rfl 0 rfl ?_
        obtain ⟨c44, H⟩ := ko_o H
        obtain ⟨a45, c46, H⟩ := kr_o H
        refine x_getR fr_X11_20 dX11_move_48 c44 rfl c46 ?_
        obtain ⟨c47, H⟩ := ko_o H
        obtain ⟨a48, c49, H⟩ := kr_o H
        refine x_getR fr_X11_36 dX11_move_51 c47 rfl c49 ?_
        refine x_iload_n dX11_move_54 rfl 1 rfl ?_
        obtain ⟨n51, c50, H⟩ := ka_o H
        obtain ⟨c52, H⟩ := chk_o H
        obtain ⟨a53, c54, H⟩ := kr_o H
        refine x_aald dX11_move_55 c50 (by decide) (inb_in.mp c52) c54 ?_
        refine x_astore_n (lv' := [(3, .ref a53), (0, .ref x0), (1, .int x1), (2, .int x2)]) dX11_move_56 rfl (by decide) rfl rfl ?_
        refine x_aload_n dX11_move_57 rfl 0 rfl ?_
        obtain ⟨c55, H⟩ := ko_o H
        refine x_getI fr_X11_143 dX11_move_58 c55 rfl ?_
        refine x_if_eq (tgt := 83) dX11_move_61 (by decide) (fun c56 => ?_) (fun c56 => ?_)
        · replace H := ite_p H c56
          refine Ex.sub [1, 2, 3, 0] rfl ?_
          exact t_X11_move_83 hd H
        · replace H := ite_m H c56
          refine x_aload_n dX11_move_64 rfl 0 rfl ?_
          refine x_iload_n dX11_move_65 rfl 3 rfl ?_
          refine x_aload_n dX11_move_66 rfl 1 rfl ?_
          obtain ⟨a57, c58, H⟩ := kr_o H
          refine x_getR fr_X11_73 dX11_move_67 c44 rfl c58 ?_
          obtain ⟨c59, H⟩ := ko_o H
          refine x_getI fr_X11_151 dX11_move_70 c59 rfl ?_
          obtain ⟨v60, h61, hc62, H⟩ := bd_o H
          refine x_callVi (As := [.int x2, .int (hI h42 a57 2)]) (q := (RX6, TX6, 8)) dX11_move_73 mi_X6_keepsBounds lk_X11_257 im_X6_keepsBounds se_X6_keepsBounds rfl c55 rfl rfl (Nat.le_of_ble_eq_true rfl) (t_X6_keepsBounds (by omega) hc62) ?_
          refine x_if_ne (tgt := 83) dX11_move_76 (by decide) (fun c63 => ?_) (fun c63 => ?_)
          · replace H := ite_m H c63
            refine Ex.sub [1, 2, 3, 0] rfl ?_
            exact t_X11_move_83 hd H
          · replace H := ite_p H c63
            refine x_iconst (v := 1) dX11_move_79 (by decide) ?_
            refine x_goto (tgt := 84) dX11_move_80 (by decide) ?_
            refine Ex.sub [1, 2, 3, 0] rfl ?_
            exact t_X11_move_84 hd H
      · replace H := ite_m H c38
        refine Ex.sub [0] rfl ?_
        exact t_X11_move_30 hd H
def f_X11_narrow_39 (x0 : Nat) (h : aH) : Option (Int32 × aH) :=
  ko h x0 10 <|
  bd (f_X11_refuse x0 3 h) fun v1 h2 =>
  some (v1, h2)
set_option maxRecDepth 100000 in
set_option maxHeartbeats 4000000 in
theorem t_X11_narrow_39 {Γ : gS} {d : Nat} (hd : 4 ≤ d) {x0 : Nat} {h : aH} {r : Int32} {h' : aH} (H : f_X11_narrow_39 x0 h = some (r, h')) : Ex Γ gX11_narrow d 39 [(0, .ref x0)] [] h (some (.int r)) h' := by
  unfold f_X11_narrow_39 at H
  obtain ⟨d, rfl⟩ : ∃ e, d = e + 1 := ⟨d - 1, by omega⟩
  refine x_aload_n dX11_narrow_39 rfl 0 rfl ?_
  refine x_iconst (v := 3) dX11_narrow_40 (by decide) ?_
  obtain ⟨c4, H⟩ := ko_o H
  obtain ⟨v1, h2, hc3, H⟩ := bd_o H
  refine x_callVi (As := [.int 3]) (q := (RX11, TX11, 17)) dX11_narrow_41 mi_X11_refuse lk_X11_107 im_X11_refuse se_X11_refuse rfl c4 rfl rfl (Nat.le_of_ble_eq_true rfl) (t_X11_refuse (by omega) hc3) ?_
  obtain ⟨rfl, rfl⟩ := so_1 H
  exact x_iret dX11_narrow_44 rfl rfl
def f_X11_narrow (x0 : Nat) (x1 : Int32) (x2 : Int32) (x3 : Int32) (h : aH) : Option (Int32 × aH) :=
  ko h x0 10 <|
  bd (f_X11_isPointer x0 x1 h) fun v5 h6 =>
  if v5 = 0 then
    f_X11_narrow_39 x0 h6
  else
    ko h6 x0 10 <|
    bd (f_X11_isPointer x0 x2 h6) fun v9 h10 =>
    if v9 = 0 then
      f_X11_narrow_39 x0 h10
    else
      ko h10 x0 10 <|
      kr (hR h10 x0 2) fun a14 =>
      ko h10 a14 9 <|
      kr (hR h10 a14 0) fun a17 =>
      ka h10 a17 (.object RX6) fun n20 =>
      chk (inb x1 n20 = true) <|
      kr (hR h10 a17 x1.toNatClampNeg) fun a22 =>
      kr (hR h10 x0 9) fun a24 =>
      ko h10 a24 4 <|
      ko h10 a22 6 <|
      bd (f_X6_canNarrow a22 x3 (hI h10 a24 2) h10) fun v27 h28 =>
      if v27 = 0 then
        f_X11_narrow_39 x0 h28
      else
        ko h28 x0 10 <|
        kr (hR h28 x0 4) fun a32 =>
        kr (hR h28 x0 2) fun a34 =>
        ko h28 a32 2 <|
        bd (f_X2_keep a32 a34 h28) fun _ h37 =>
        ko h37 x0 10 <|
        kr (hR h37 x0 2) fun a40 =>
        ko h37 a40 9 <|
        kr (hR h37 a40 0) fun a43 =>
        ka h37 a43 (.object RX6) fun n46 =>
        chk (inb x2 n46 = true) <|
        kr (hR h37 a43 x2.toNatClampNeg) fun a48 =>
        chk (inb x1 n46 = true) <|
        kr (hR h37 a43 x1.toNatClampNeg) fun a51 =>
        ko h37 a48 6 <|
        bd (f_X6_become a48 a51 h37) fun _ h54 =>
        ko h54 a48 6 <|
        ko h54 x0 10 <|
        kr (hR h54 x0 9) fun a58 =>
        ko h54 a58 4 <|
        bd (f_X6_carry a48 (hI h54 a48 2) x3 (hI h54 a58 2) h54) fun _ h62 =>
        ko h62 x0 10 <|
        kr (hR h62 x0 9) fun a65 =>
        ko h62 a65 4 <|
        ko h62 a48 6 <|
        bd (f_X6_extent a48 (hI h62 a65 2) h62) fun v68 h69 =>
        some (v68, h69)
set_option maxRecDepth 100000 in
set_option maxHeartbeats 4000000 in
theorem t_X11_narrow {Γ : gS} {d : Nat} (hd : 4 ≤ d) {x0 : Nat} {x1 : Int32} {x2 : Int32} {x3 : Int32} {h : aH} {r : Int32} {h' : aH} (H : f_X11_narrow x0 x1 x2 x3 h = some (r, h')) : Mx Γ gX11_narrow d [.ref x0, .int x1, .int x2, .int x3] h (some (.int r)) h' := by
  refine Mx.of (by decide +kernel) (Nat.le_of_ble_eq_true rfl) ?_
  unfold f_X11_narrow at H
  show Ex Γ gX11_narrow d 0 [(0, .ref x0), (1, .int x1), (2, .int x2), (3, .int x3)] [] h (some (.int r)) h'
  obtain ⟨d, rfl⟩ : ∃ e, d = e + 1 := ⟨d - 1, by omega⟩
  refine x_aload_n dX11_narrow_0 rfl 0 rfl ?_
  refine x_iload_n dX11_narrow_1 rfl 1 rfl ?_
  obtain ⟨c76, H⟩ := ko_o H
  obtain ⟨v5, h6, hc7, H⟩ := bd_o H
  refine x_callVi (As := [.int x1]) (q := (RX11, TX11, 17)) dX11_narrow_2 mi_X11_isPointer lk_X11_196 im_X11_isPointer se_X11_isPointer rfl c76 rfl rfl (Nat.le_of_ble_eq_true rfl) (t_X11_isPointer (by omega) hc7) ?_
  refine x_if_eq (tgt := 39) dX11_narrow_5 (by decide) (fun c8 => ?_) (fun c8 => ?_)
  · replace H := ite_p H c8
    refine Ex.sub [0] rfl ?_
    exact t_X11_narrow_39 hd H
  · replace H := ite_m H c8
    refine x_aload_n dX11_narrow_8 rfl 0 rfl ?_
    refine x_iload_n dX11_narrow_9 rfl 2 rfl ?_
    obtain ⟨c75, H⟩ := ko_o H
    obtain ⟨v9, h10, hc11, H⟩ := bd_o H
    refine x_callVi (As := [.int x2]) (q := (RX11, TX11, 17)) dX11_narrow_10 mi_X11_isPointer lk_X11_196 im_X11_isPointer se_X11_isPointer rfl c75 rfl rfl (Nat.le_of_ble_eq_true rfl) (t_X11_isPointer (by omega) hc11) ?_
    refine x_if_eq (tgt := 39) dX11_narrow_13 (by decide) (fun c12 => ?_) (fun c12 => ?_)
    · replace H := ite_p H c12
      refine Ex.sub [0] rfl ?_
      exact t_X11_narrow_39 hd H
    · replace H := ite_m H c12
      refine x_aload_n dX11_narrow_16 rfl 0 rfl ?_
      obtain ⟨c13, H⟩ := ko_o H
      obtain ⟨a14, c15, H⟩ := kr_o H
      refine x_getR fr_X11_20 dX11_narrow_17 c13 rfl c15 ?_
      obtain ⟨c16, H⟩ := ko_o H
      obtain ⟨a17, c18, H⟩ := kr_o H
      refine x_getR fr_X11_36 dX11_narrow_20 c16 rfl c18 ?_
      refine x_iload_n dX11_narrow_23 rfl 1 rfl ?_
      obtain ⟨n20, c19, H⟩ := ka_o H
      obtain ⟨c21, H⟩ := chk_o H
      obtain ⟨a22, c23, H⟩ := kr_o H
      refine x_aald dX11_narrow_24 c19 (by decide) (inb_in.mp c21) c23 ?_
      refine x_iload_n dX11_narrow_25 rfl 3 rfl ?_
      refine x_aload_n dX11_narrow_26 rfl 0 rfl ?_
      obtain ⟨a24, c25, H⟩ := kr_o H
      refine x_getR fr_X11_73 dX11_narrow_27 c13 rfl c25 ?_
      obtain ⟨c26, H⟩ := ko_o H
      refine x_getI fr_X11_151 dX11_narrow_30 c26 rfl ?_
      obtain ⟨c74, H⟩ := ko_o H
      obtain ⟨v27, h28, hc29, H⟩ := bd_o H
      refine x_callVi (As := [.int x3, .int (hI h10 a24 2)]) (q := (RX6, TX6, 8)) dX11_narrow_33 mi_X6_canNarrow lk_X11_357 im_X6_canNarrow se_X6_canNarrow rfl c74 rfl rfl (Nat.le_of_ble_eq_true rfl) (t_X6_canNarrow (by omega) hc29) ?_
      refine x_if_ne (tgt := 45) dX11_narrow_36 (by decide) (fun c30 => ?_) (fun c30 => ?_)
      · replace H := ite_m H c30
        refine x_aload_n dX11_narrow_45 rfl 0 rfl ?_
        obtain ⟨c31, H⟩ := ko_o H
        obtain ⟨a32, c33, H⟩ := kr_o H
        refine x_getR fr_X11_30 dX11_narrow_46 c31 rfl c33 ?_
        refine x_aload_n dX11_narrow_49 rfl 0 rfl ?_
        obtain ⟨a34, c35, H⟩ := kr_o H
        refine x_getR fr_X11_20 dX11_narrow_50 c31 rfl c35 ?_
        obtain ⟨c73, H⟩ := ko_o H
        obtain ⟨v36, h37, hc38, H⟩ := bd_o H
        refine x_callVv (As := [.ref a34]) (q := (RX2, TX2, 3)) dX11_narrow_53 mi_X2_keep lk_X11_309 im_X2_keep se_X2_keep rfl c73 rfl rfl (Nat.le_of_ble_eq_true rfl) (t_X2_keep (by omega) hc38) ?_
        refine x_aload_n dX11_narrow_56 rfl 0 rfl ?_
        obtain ⟨c39, H⟩ := ko_o H
        obtain ⟨a40, c41, H⟩ := kr_o H
        refine x_getR fr_X11_20 dX11_narrow_57 c39 rfl c41 ?_
        obtain ⟨c42, H⟩ := ko_o H
        obtain ⟨a43, c44, H⟩ := kr_o H
        refine x_getR fr_X11_36 dX11_narrow_60 c42 rfl c44 ?_
        refine x_iload_n dX11_narrow_63 rfl 2 rfl ?_
        obtain ⟨n46, c45, H⟩ := ka_o H
        obtain ⟨c47, H⟩ := chk_o H
        obtain ⟨a48, c49, H⟩ := kr_o H
        refine x_aald dX11_narrow_64 c45 (by decide) (inb_in.mp c47) c49 ?_
        refine x_astore (lv' := [(4, .ref a48), (0, .ref x0), (1, .int x1), (2, .int x2), (3, .int x3)]) dX11_narrow_65 (by decide) rfl rfl ?_
        refine x_aload dX11_narrow_67 0 rfl ?_
        refine x_aload_n dX11_narrow_69 rfl 1 rfl ?_
        refine x_getR fr_X11_20 dX11_narrow_70 c39 rfl c41 ?_
        refine x_getR fr_X11_36 dX11_narrow_73 c42 rfl c44 ?_
        refine x_iload_n dX11_narrow_76 rfl 2 rfl ?_
        obtain ⟨c50, H⟩ := chk_o H
        obtain ⟨a51, c52, H⟩ := kr_o H
        refine x_aald dX11_narrow_77 c45 (by decide) (inb_in.mp c50) c52 ?_
        obtain ⟨c72, H⟩ := ko_o H
        obtain ⟨v53, h54, hc55, H⟩ := bd_o H
        refine x_callVv (As := [.ref a51]) (q := (RX6, TX6, 8)) dX11_narrow_78 mi_X6_become lk_X11_347 im_X6_become se_X6_become rfl c72 rfl rfl (Nat.le_of_ble_eq_true rfl) (t_X6_become (by omega) hc55) ?_
        refine x_aload dX11_narrow_81 0 rfl ?_
        refine x_aload dX11_narrow_83 0 rfl ?_
        obtain ⟨c56, H⟩ := ko_o H
        refine x_getI fr_X11_330 dX11_narrow_85 c56 rfl ?_
        refine x_iload_n dX11_narrow_88 rfl 4 rfl ?_
        refine x_aload_n dX11_narrow_89 rfl 1 rfl ?_
        obtain ⟨c57, H⟩ := ko_o H
        obtain ⟨a58, c59, H⟩ := kr_o H
        refine x_getR fr_X11_73 dX11_narrow_90 c57 rfl c59 ?_
        obtain ⟨c60, H⟩ := ko_o H
        refine x_getI fr_X11_151 dX11_narrow_93 c60 rfl ?_
        obtain ⟨v61, h62, hc63, H⟩ := bd_o H
        refine x_callVv (As := [.int (hI h54 a48 2), .int x3, .int (hI h54 a58 2)]) (q := (RX6, TX6, 8)) dX11_narrow_96 mi_X6_carry lk_X11_154 im_X6_carry se_X6_carry rfl c56 rfl rfl (Nat.le_of_ble_eq_true rfl) (t_X6_carry (by omega) hc63) ?_
        refine x_aload dX11_narrow_99 0 rfl ?_
        refine x_aload_n dX11_narrow_101 rfl 1 rfl ?_
        obtain ⟨c64, H⟩ := ko_o H
        obtain ⟨a65, c66, H⟩ := kr_o H
        refine x_getR fr_X11_73 dX11_narrow_102 c64 rfl c66 ?_
        obtain ⟨c67, H⟩ := ko_o H
        refine x_getI fr_X11_151 dX11_narrow_105 c67 rfl ?_
        obtain ⟨c71, H⟩ := ko_o H
        obtain ⟨v68, h69, hc70, H⟩ := bd_o H
        refine x_callVi (As := [.int (hI h62 a65 2)]) (q := (RX6, TX6, 8)) dX11_narrow_108 mi_X6_extent lk_X11_341 im_X6_extent se_X6_extent rfl c71 rfl rfl (Nat.le_of_ble_eq_true rfl) (t_X6_extent (by omega) hc70) ?_
        obtain ⟨rfl, rfl⟩ := so_1 H
        exact x_iret dX11_narrow_111 rfl rfl
      · replace H := ite_p H c30
        refine Ex.sub [0] rfl ?_
        exact t_X11_narrow_39 hd H
def f_X11_limit_33 (x0 : Nat) (h : aH) : Option (Int32 × aH) :=
  ko h x0 10 <|
  bd (f_X11_refuse x0 3 h) fun v1 h2 =>
  some (v1, h2)
set_option maxRecDepth 100000 in
set_option maxHeartbeats 4000000 in
theorem t_X11_limit_33 {Γ : gS} {d : Nat} (hd : 4 ≤ d) {x0 : Nat} {h : aH} {r : Int32} {h' : aH} (H : f_X11_limit_33 x0 h = some (r, h')) : Ex Γ gX11_limit d 33 [(0, .ref x0)] [] h (some (.int r)) h' := by
  unfold f_X11_limit_33 at H
  obtain ⟨d, rfl⟩ : ∃ e, d = e + 1 := ⟨d - 1, by omega⟩
  refine x_aload_n dX11_limit_33 rfl 0 rfl ?_
  refine x_iconst (v := 3) dX11_limit_34 (by decide) ?_
  obtain ⟨c4, H⟩ := ko_o H
  obtain ⟨v1, h2, hc3, H⟩ := bd_o H
  refine x_callVi (As := [.int 3]) (q := (RX11, TX11, 17)) dX11_limit_35 mi_X11_refuse lk_X11_107 im_X11_refuse se_X11_refuse rfl c4 rfl rfl (Nat.le_of_ble_eq_true rfl) (t_X11_refuse (by omega) hc3) ?_
  obtain ⟨rfl, rfl⟩ := so_1 H
  exact x_iret dX11_limit_38 rfl rfl
def f_X11_limit (x0 : Nat) (x1 : Int32) (x2 : Int32) (h : aH) : Option (Int32 × aH) :=
  ko h x0 10 <|
  bd (f_X11_isPointer x0 x1 h) fun v5 h6 =>
  if v5 = 0 then
    f_X11_limit_33 x0 h6
  else
    if x2 < 0 then
      f_X11_limit_33 x0 h6
    else
      if 7 < x2 then
        f_X11_limit_33 x0 h6
      else
        ko h6 x0 10 <|
        kr (hR h6 x0 2) fun a12 =>
        ko h6 a12 9 <|
        kr (hR h6 a12 0) fun a15 =>
        ka h6 a15 (.object RX6) fun n18 =>
        chk (inb x1 n18 = true) <|
        kr (hR h6 a15 x1.toNatClampNeg) fun a20 =>
        ko h6 a20 6 <|
        if (hI h6 a20 7) = 0 then
          kr (hR h6 x0 4) fun a24 =>
          ko h6 a24 2 <|
          bd (f_X2_keep a24 a12 h6) fun _ h27 =>
          ko h27 x0 10 <|
          kr (hR h27 x0 2) fun a30 =>
          ko h27 a30 9 <|
          kr (hR h27 a30 0) fun a33 =>
          ka h27 a33 (.object RX6) fun n36 =>
          chk (inb x1 n36 = true) <|
          kr (hR h27 a33 x1.toNatClampNeg) fun a38 =>
          ko h27 a38 6 <|
          nm (hI (sI h27 a38 6 ((hI h27 a38 6) &&& x2)) a38 6) fun (v41 : Int32) =>
          some (v41, sI h27 a38 6 ((hI h27 a38 6) &&& x2))
        else
          f_X11_limit_33 x0 h6
set_option maxRecDepth 100000 in
set_option maxHeartbeats 4000000 in
theorem t_X11_limit {Γ : gS} {d : Nat} (hd : 4 ≤ d) {x0 : Nat} {x1 : Int32} {x2 : Int32} {h : aH} {r : Int32} {h' : aH} (H : f_X11_limit x0 x1 x2 h = some (r, h')) : Mx Γ gX11_limit d [.ref x0, .int x1, .int x2] h (some (.int r)) h' := by
  refine Mx.of (by decide +kernel) (Nat.le_of_ble_eq_true rfl) ?_
  unfold f_X11_limit at H
  show Ex Γ gX11_limit d 0 [(0, .ref x0), (1, .int x1), (2, .int x2)] [] h (some (.int r)) h'
  obtain ⟨d, rfl⟩ : ∃ e, d = e + 1 := ⟨d - 1, by omega⟩
  refine x_aload_n dX11_limit_0 rfl 0 rfl ?_
  refine x_iload_n dX11_limit_1 rfl 1 rfl ?_
  obtain ⟨c43, H⟩ := ko_o H
  obtain ⟨v5, h6, hc7, H⟩ := bd_o H
  refine x_callVi (As := [.int x1]) (q := (RX11, TX11, 17)) dX11_limit_2 mi_X11_isPointer lk_X11_196 im_X11_isPointer se_X11_isPointer rfl c43 rfl rfl (Nat.le_of_ble_eq_true rfl) (t_X11_isPointer (by omega) hc7) ?_
  refine x_if_eq (tgt := 33) dX11_limit_5 (by decide) (fun c8 => ?_) (fun c8 => ?_)
  · replace H := ite_p H c8
    refine Ex.sub [0] rfl ?_
    exact t_X11_limit_33 hd H
  · replace H := ite_m H c8
    refine x_iload_n dX11_limit_8 rfl 2 rfl ?_
    refine x_if_lt (tgt := 33) dX11_limit_9 (by decide) (fun c9 => ?_) (fun c9 => ?_)
    · replace H := ite_p H c9
      refine Ex.sub [0] rfl ?_
      exact t_X11_limit_33 hd H
    · replace H := ite_m H c9
      refine x_iload_n dX11_limit_12 rfl 2 rfl ?_
      refine x_bipush (v := 7) dX11_limit_13 (by decide) ?_
      refine x_icmp_gt (tgt := 33) dX11_limit_15 (by decide) (fun c10 => ?_) (fun c10 => ?_)
      · replace H := ite_p H c10
        refine Ex.sub [0] rfl ?_
        exact t_X11_limit_33 hd H
      · replace H := ite_m H c10
        refine x_aload_n dX11_limit_18 rfl 0 rfl ?_
        obtain ⟨c11, H⟩ := ko_o H
        obtain ⟨a12, c13, H⟩ := kr_o H
        refine x_getR fr_X11_20 dX11_limit_19 c11 rfl c13 ?_
        obtain ⟨c14, H⟩ := ko_o H
        obtain ⟨a15, c16, H⟩ := kr_o H
        refine x_getR fr_X11_36 dX11_limit_22 c14 rfl c16 ?_
        refine x_iload_n dX11_limit_25 rfl 1 rfl ?_
        obtain ⟨n18, c17, H⟩ := ka_o H
        obtain ⟨c19, H⟩ := chk_o H
        obtain ⟨a20, c21, H⟩ := kr_o H
        refine x_aald dX11_limit_26 c17 (by decide) (inb_in.mp c19) c21 ?_
        obtain ⟨c22, H⟩ := ko_o H
        refine x_getI fr_X11_351 dX11_limit_27 c22 rfl ?_
        refine x_if_eq (tgt := 39) dX11_limit_30 (by decide) (fun c23 => ?_) (fun c23 => ?_)
        · replace H := ite_p H c23
          refine x_aload_n dX11_limit_39 rfl 0 rfl ?_
          obtain ⟨a24, c25, H⟩ := kr_o H
          refine x_getR fr_X11_30 dX11_limit_40 c11 rfl c25 ?_
          refine x_aload_n dX11_limit_43 rfl 0 rfl ?_
          refine x_getR fr_X11_20 dX11_limit_44 c11 rfl c13 ?_
          obtain ⟨c42, H⟩ := ko_o H
          obtain ⟨v26, h27, hc28, H⟩ := bd_o H
          refine x_callVv (As := [.ref a12]) (q := (RX2, TX2, 3)) dX11_limit_47 mi_X2_keep lk_X11_309 im_X2_keep se_X2_keep rfl c42 rfl rfl (Nat.le_of_ble_eq_true rfl) (t_X2_keep (by omega) hc28) ?_
          refine x_aload_n dX11_limit_50 rfl 0 rfl ?_
          obtain ⟨c29, H⟩ := ko_o H
          obtain ⟨a30, c31, H⟩ := kr_o H
          refine x_getR fr_X11_20 dX11_limit_51 c29 rfl c31 ?_
          obtain ⟨c32, H⟩ := ko_o H
          obtain ⟨a33, c34, H⟩ := kr_o H
          refine x_getR fr_X11_36 dX11_limit_54 c32 rfl c34 ?_
          refine x_iload_n dX11_limit_57 rfl 1 rfl ?_
          obtain ⟨n36, c35, H⟩ := ka_o H
          obtain ⟨c37, H⟩ := chk_o H
          obtain ⟨a38, c39, H⟩ := kr_o H
          refine x_aald dX11_limit_58 c35 (by decide) (inb_in.mp c37) c39 ?_
          refine x_dup dX11_limit_59 rfl ?_
          obtain ⟨c40, H⟩ := ko_o H
          refine x_getI fr_X11_148 dX11_limit_60 c40 rfl ?_
          refine x_iload_n dX11_limit_63 rfl 2 rfl ?_
          refine x_iand dX11_limit_64 ?_
          refine x_putI fl_X11_148 dX11_limit_65 c40 (fun e => by cases e) rfl ?_
          refine x_aload_n dX11_limit_68 rfl 0 rfl ?_
          refine x_getR fr_X11_20 dX11_limit_69 c29 rfl c31 ?_
          refine x_getR fr_X11_36 dX11_limit_72 c32 rfl c34 ?_
          refine x_iload_n dX11_limit_75 rfl 1 rfl ?_
          refine x_aald dX11_limit_76 c35 (by decide) (inb_in.mp c37) c39 ?_
          obtain ⟨v41, ev41, H⟩ := nm_o H
          refine x_getIe fr_X11_148 dX11_limit_77 c40 rfl ev41 ?_
          obtain ⟨rfl, rfl⟩ := so_1 H
          exact x_iret dX11_limit_80 rfl rfl
        · replace H := ite_m H c23
          refine Ex.sub [0] rfl ?_
          exact t_X11_limit_33 hd H
def f_X11_kindOfKey_89 (s0 : Int32) (h : aH) : Option (Int32 × aH) :=
  some (s0, h)
set_option maxRecDepth 100000 in
set_option maxHeartbeats 4000000 in
theorem t_X11_kindOfKey_89 {Γ : gS} {d : Nat} (hd : 3 ≤ d) {s0 : Int32} {h : aH} {r : Int32} {h' : aH} (H : f_X11_kindOfKey_89 s0 h = some (r, h')) : Ex Γ gX11_kindOfKey d 89 [] [.int s0] h (some (.int r)) h' := by
  unfold f_X11_kindOfKey_89 at H
  obtain ⟨d, rfl⟩ : ∃ e, d = e + 1 := ⟨d - 1, by omega⟩
  obtain ⟨rfl, rfl⟩ := so_1 H
  exact x_iret dX11_kindOfKey_89 rfl rfl
def f_X11_kindOfKey_76 (x2 : Nat) (s0 : Int32) (h : aH) : Option (Int32 × aH) :=
  if s0 = 0 then
    f_X11_kindOfKey_89 (-1) h
  else
    ko h x2 6 <|
    f_X11_kindOfKey_89 (hI h x2 2) h
set_option maxRecDepth 100000 in
set_option maxHeartbeats 4000000 in
theorem t_X11_kindOfKey_76 {Γ : gS} {d : Nat} (hd : 3 ≤ d) {x2 : Nat} {s0 : Int32} {h : aH} {r : Int32} {h' : aH} (H : f_X11_kindOfKey_76 x2 s0 h = some (r, h')) : Ex Γ gX11_kindOfKey d 76 [(2, .ref x2)] [.int s0] h (some (.int r)) h' := by
  unfold f_X11_kindOfKey_76 at H
  obtain ⟨d, rfl⟩ : ∃ e, d = e + 1 := ⟨d - 1, by omega⟩
  refine x_istore_n (lv' := [(3, .int s0), (2, .ref x2)]) dX11_kindOfKey_76 rfl (by decide) rfl rfl ?_
  refine x_iload_n dX11_kindOfKey_77 rfl 0 rfl ?_
  refine x_if_eq (tgt := 88) dX11_kindOfKey_78 (by decide) (fun c1 => ?_) (fun c1 => ?_)
  · replace H := ite_p H c1
    refine x_iconst (v := (-1)) dX11_kindOfKey_88 (by decide) ?_
    refine Ex.sub [] rfl ?_
    exact t_X11_kindOfKey_89 hd H
  · replace H := ite_m H c1
    refine x_aload_n dX11_kindOfKey_81 rfl 1 rfl ?_
    obtain ⟨c2, H⟩ := ko_o H
    refine x_getI fr_X11_330 dX11_kindOfKey_82 c2 rfl ?_
    refine x_goto (tgt := 89) dX11_kindOfKey_85 (by decide) ?_
    refine Ex.sub [] rfl ?_
    exact t_X11_kindOfKey_89 hd H
def f_X11_kindOfKey_75 (x2 : Nat) (h : aH) : Option (Int32 × aH) :=
  f_X11_kindOfKey_76 x2 0 h
set_option maxRecDepth 100000 in
set_option maxHeartbeats 4000000 in
theorem t_X11_kindOfKey_75 {Γ : gS} {d : Nat} (hd : 3 ≤ d) {x2 : Nat} {h : aH} {r : Int32} {h' : aH} (H : f_X11_kindOfKey_75 x2 h = some (r, h')) : Ex Γ gX11_kindOfKey d 75 [(2, .ref x2)] [] h (some (.int r)) h' := by
  unfold f_X11_kindOfKey_75 at H
  obtain ⟨d, rfl⟩ : ∃ e, d = e + 1 := ⟨d - 1, by omega⟩
  refine x_iconst (v := 0) dX11_kindOfKey_75 (by decide) ?_
  exact t_X11_kindOfKey_76 hd H
def f_X11_kindOfKey (x0 : Nat) (x1 : Int32) (h : aH) : Option (Int32 × aH) :=
  ko h x0 10 <|
  bd (f_X11_isPointer x0 x1 h) fun v3 h4 =>
  if v3 = 0 then
    some ((-1), h4)
  else
    ko h4 x0 10 <|
    kr (hR h4 x0 2) fun a8 =>
    ko h4 a8 9 <|
    kr (hR h4 a8 0) fun a11 =>
    ka h4 a11 (.object RX6) fun n14 =>
    chk (inb x1 n14 = true) <|
    kr (hR h4 a11 x1.toNatClampNeg) fun a16 =>
    ko h4 a16 6 <|
    bd (f_X6_isUsable a16 h4) fun v18 h19 =>
    if v18 = 0 then
      f_X11_kindOfKey_75 a16 h19
    else
      ko h19 a16 6 <|
      if ((hI h19 a16 6) &&& 4) = 0 then
        f_X11_kindOfKey_75 a16 h19
      else
        if (hI h19 a16 2) < 1 then
          f_X11_kindOfKey_75 a16 h19
        else
          if 7 < (hI h19 a16 2) then
            f_X11_kindOfKey_75 a16 h19
          else
            ko h19 x0 10 <|
            kr (hR h19 x0 9) fun a27 =>
            ko h19 a27 4 <|
            bd (f_X6_covers a16 (hI h19 a16 2) (hI h19 a27 2) h19) fun v30 h31 =>
            if v30 = 0 then
              f_X11_kindOfKey_75 a16 h31
            else
              f_X11_kindOfKey_76 a16 1 h31
set_option maxRecDepth 100000 in
set_option maxHeartbeats 4000000 in
theorem t_X11_kindOfKey {Γ : gS} {d : Nat} (hd : 3 ≤ d) {x0 : Nat} {x1 : Int32} {h : aH} {r : Int32} {h' : aH} (H : f_X11_kindOfKey x0 x1 h = some (r, h')) : Mx Γ gX11_kindOfKey d [.ref x0, .int x1] h (some (.int r)) h' := by
  refine Mx.of (by decide +kernel) (Nat.le_of_ble_eq_true rfl) ?_
  unfold f_X11_kindOfKey at H
  show Ex Γ gX11_kindOfKey d 0 [(0, .ref x0), (1, .int x1)] [] h (some (.int r)) h'
  obtain ⟨d, rfl⟩ : ∃ e, d = e + 1 := ⟨d - 1, by omega⟩
  refine x_aload_n dX11_kindOfKey_0 rfl 0 rfl ?_
  refine x_iload_n dX11_kindOfKey_1 rfl 1 rfl ?_
  obtain ⟨c35, H⟩ := ko_o H
  obtain ⟨v3, h4, hc5, H⟩ := bd_o H
  refine x_callVi (As := [.int x1]) (q := (RX11, TX11, 17)) dX11_kindOfKey_2 mi_X11_isPointer lk_X11_196 im_X11_isPointer se_X11_isPointer rfl c35 rfl rfl (Nat.le_of_ble_eq_true rfl) (t_X11_isPointer (by omega) hc5) ?_
  refine x_if_ne (tgt := 10) dX11_kindOfKey_5 (by decide) (fun c6 => ?_) (fun c6 => ?_)
  · replace H := ite_m H c6
    refine x_aload_n dX11_kindOfKey_10 rfl 0 rfl ?_
    obtain ⟨c7, H⟩ := ko_o H
    obtain ⟨a8, c9, H⟩ := kr_o H
    refine x_getR fr_X11_20 dX11_kindOfKey_11 c7 rfl c9 ?_
    obtain ⟨c10, H⟩ := ko_o H
    obtain ⟨a11, c12, H⟩ := kr_o H
    refine x_getR fr_X11_36 dX11_kindOfKey_14 c10 rfl c12 ?_
    refine x_iload_n dX11_kindOfKey_17 rfl 1 rfl ?_
    obtain ⟨n14, c13, H⟩ := ka_o H
    obtain ⟨c15, H⟩ := chk_o H
    obtain ⟨a16, c17, H⟩ := kr_o H
    refine x_aald dX11_kindOfKey_18 c13 (by decide) (inb_in.mp c15) c17 ?_
    refine x_astore_n (lv' := [(2, .ref a16), (0, .ref x0), (1, .int x1)]) dX11_kindOfKey_19 rfl (by decide) rfl rfl ?_
    refine x_aload_n dX11_kindOfKey_20 rfl 0 rfl ?_
    obtain ⟨c34, H⟩ := ko_o H
    obtain ⟨v18, h19, hc20, H⟩ := bd_o H
    refine x_callVi (As := []) (q := (RX6, TX6, 8)) dX11_kindOfKey_21 mi_X6_isUsable lk_X11_269 im_X6_isUsable se_X6_isUsable rfl c34 rfl rfl (Nat.le_of_ble_eq_true rfl) (t_X6_isUsable (by omega) hc20) ?_
    refine x_if_eq (tgt := 75) dX11_kindOfKey_24 (by decide) (fun c21 => ?_) (fun c21 => ?_)
    · replace H := ite_p H c21
      refine Ex.sub [0] rfl ?_
      exact t_X11_kindOfKey_75 hd H
    · replace H := ite_m H c21
      refine x_aload_n dX11_kindOfKey_27 rfl 0 rfl ?_
      obtain ⟨c22, H⟩ := ko_o H
      refine x_getI fr_X11_148 dX11_kindOfKey_28 c22 rfl ?_
      refine x_iconst (v := 4) dX11_kindOfKey_31 (by decide) ?_
      refine x_iand dX11_kindOfKey_32 ?_
      refine x_if_eq (tgt := 75) dX11_kindOfKey_33 (by decide) (fun c23 => ?_) (fun c23 => ?_)
      · replace H := ite_p H c23
        refine Ex.sub [0] rfl ?_
        exact t_X11_kindOfKey_75 hd H
      · replace H := ite_m H c23
        refine x_aload_n dX11_kindOfKey_36 rfl 0 rfl ?_
        refine x_getI fr_X11_330 dX11_kindOfKey_37 c22 rfl ?_
        refine x_iconst (v := 1) dX11_kindOfKey_40 (by decide) ?_
        refine x_icmp_lt (tgt := 75) dX11_kindOfKey_41 (by decide) (fun c24 => ?_) (fun c24 => ?_)
        · replace H := ite_p H c24
          refine Ex.sub [0] rfl ?_
          exact t_X11_kindOfKey_75 hd H
        · replace H := ite_m H c24
          refine x_aload_n dX11_kindOfKey_44 rfl 0 rfl ?_
          refine x_getI fr_X11_330 dX11_kindOfKey_45 c22 rfl ?_
          refine x_bipush (v := 7) dX11_kindOfKey_48 (by decide) ?_
          refine x_icmp_gt (tgt := 75) dX11_kindOfKey_50 (by decide) (fun c25 => ?_) (fun c25 => ?_)
          · replace H := ite_p H c25
            refine Ex.sub [0] rfl ?_
            exact t_X11_kindOfKey_75 hd H
          · replace H := ite_m H c25
            refine x_aload_n dX11_kindOfKey_53 rfl 0 rfl ?_
            refine x_aload_n dX11_kindOfKey_54 rfl 0 rfl ?_
            refine x_getI fr_X11_330 dX11_kindOfKey_55 c22 rfl ?_
            refine x_aload_n dX11_kindOfKey_58 rfl 1 rfl ?_
            obtain ⟨c26, H⟩ := ko_o H
            obtain ⟨a27, c28, H⟩ := kr_o H
            refine x_getR fr_X11_73 dX11_kindOfKey_59 c26 rfl c28 ?_
            obtain ⟨c29, H⟩ := ko_o H
            refine x_getI fr_X11_151 dX11_kindOfKey_62 c29 rfl ?_
            obtain ⟨v30, h31, hc32, H⟩ := bd_o H
            refine x_callVi (As := [.int (hI h19 a16 2), .int (hI h19 a27 2)]) (q := (RX6, TX6, 8)) dX11_kindOfKey_65 mi_X6_covers lk_X11_273 im_X6_covers se_X6_covers rfl c22 rfl rfl (Nat.le_of_ble_eq_true rfl) (t_X6_covers (by omega) hc32) ?_
            refine x_if_eq (tgt := 75) dX11_kindOfKey_68 (by decide) (fun c33 => ?_) (fun c33 => ?_)
            · replace H := ite_p H c33
              refine Ex.sub [0] rfl ?_
              exact t_X11_kindOfKey_75 hd H
            · replace H := ite_m H c33
              refine x_iconst (v := 1) dX11_kindOfKey_71 (by decide) ?_
              refine x_goto (tgt := 76) dX11_kindOfKey_72 (by decide) ?_
              refine Ex.sub [0] rfl ?_
              exact t_X11_kindOfKey_76 hd H
  · replace H := ite_p H c6
    refine x_iconst (v := (-1)) dX11_kindOfKey_8 (by decide) ?_
    obtain ⟨rfl, rfl⟩ := so_1 H
    exact x_iret dX11_kindOfKey_9 rfl rfl
def f_X11_seal_34 (x0 : Nat) (h : aH) : Option (Int32 × aH) :=
  ko h x0 10 <|
  bd (f_X11_refuse x0 4 h) fun v1 h2 =>
  some (v1, h2)
set_option maxRecDepth 100000 in
set_option maxHeartbeats 4000000 in
theorem t_X11_seal_34 {Γ : gS} {d : Nat} (hd : 4 ≤ d) {x0 : Nat} {h : aH} {r : Int32} {h' : aH} (H : f_X11_seal_34 x0 h = some (r, h')) : Ex Γ gX11_seal d 34 [(0, .ref x0)] [] h (some (.int r)) h' := by
  unfold f_X11_seal_34 at H
  obtain ⟨d, rfl⟩ : ∃ e, d = e + 1 := ⟨d - 1, by omega⟩
  refine x_aload_n dX11_seal_34 rfl 0 rfl ?_
  refine x_iconst (v := 4) dX11_seal_35 (by decide) ?_
  obtain ⟨c4, H⟩ := ko_o H
  obtain ⟨v1, h2, hc3, H⟩ := bd_o H
  refine x_callVi (As := [.int 4]) (q := (RX11, TX11, 17)) dX11_seal_36 mi_X11_refuse lk_X11_107 im_X11_refuse se_X11_refuse rfl c4 rfl rfl (Nat.le_of_ble_eq_true rfl) (t_X11_refuse (by omega) hc3) ?_
  obtain ⟨rfl, rfl⟩ := so_1 H
  exact x_iret dX11_seal_39 rfl rfl
def f_X11_seal (x0 : Nat) (x1 : Int32) (x2 : Int32) (h : aH) : Option (Int32 × aH) :=
  ko h x0 10 <|
  bd (f_X11_kindOfKey x0 x2 h) fun v5 h6 =>
  if v5 = (-1) then
    f_X11_seal_34 x0 h6
  else
    ko h6 x0 10 <|
    bd (f_X11_isPointer x0 x1 h6) fun v9 h10 =>
    if v9 = 0 then
      f_X11_seal_34 x0 h10
    else
      ko h10 x0 10 <|
      kr (hR h10 x0 2) fun a14 =>
      ko h10 a14 9 <|
      kr (hR h10 a14 0) fun a17 =>
      ka h10 a17 (.object RX6) fun n20 =>
      chk (inb x1 n20 = true) <|
      kr (hR h10 a17 x1.toNatClampNeg) fun a22 =>
      ko h10 a22 6 <|
      bd (f_X6_isUsable a22 h10) fun v24 h25 =>
      if v24 = 0 then
        f_X11_seal_34 x0 h25
      else
        ko h25 x0 10 <|
        kr (hR h25 x0 4) fun a29 =>
        kr (hR h25 x0 2) fun a31 =>
        ko h25 a29 2 <|
        bd (f_X2_keep a29 a31 h25) fun _ h34 =>
        ko h34 x0 10 <|
        kr (hR h34 x0 2) fun a37 =>
        ko h34 a37 9 <|
        kr (hR h34 a37 0) fun a40 =>
        ka h34 a40 (.object RX6) fun n43 =>
        chk (inb x1 n43 = true) <|
        kr (hR h34 a40 x1.toNatClampNeg) fun a45 =>
        ko h34 a45 6 <|
        some (v5, sI h34 a45 7 v5)
set_option maxRecDepth 100000 in
set_option maxHeartbeats 4000000 in
theorem t_X11_seal {Γ : gS} {d : Nat} (hd : 4 ≤ d) {x0 : Nat} {x1 : Int32} {x2 : Int32} {h : aH} {r : Int32} {h' : aH} (H : f_X11_seal x0 x1 x2 h = some (r, h')) : Mx Γ gX11_seal d [.ref x0, .int x1, .int x2] h (some (.int r)) h' := by
  refine Mx.of (by decide +kernel) (Nat.le_of_ble_eq_true rfl) ?_
  unfold f_X11_seal at H
  show Ex Γ gX11_seal d 0 [(0, .ref x0), (1, .int x1), (2, .int x2)] [] h (some (.int r)) h'
  obtain ⟨d, rfl⟩ : ∃ e, d = e + 1 := ⟨d - 1, by omega⟩
  refine x_aload_n dX11_seal_0 rfl 0 rfl ?_
  refine x_iload_n dX11_seal_1 rfl 2 rfl ?_
  obtain ⟨c51, H⟩ := ko_o H
  obtain ⟨v5, h6, hc7, H⟩ := bd_o H
  refine x_callVi (As := [.int x2]) (q := (RX11, TX11, 17)) dX11_seal_2 mi_X11_kindOfKey lk_X11_360 im_X11_kindOfKey se_X11_kindOfKey rfl c51 rfl rfl (Nat.le_of_ble_eq_true rfl) (t_X11_kindOfKey (by omega) hc7) ?_
  refine x_istore_n (lv' := [(3, .int v5), (0, .ref x0), (1, .int x1), (2, .int x2)]) dX11_seal_5 rfl (by decide) rfl rfl ?_
  refine x_iload_n dX11_seal_6 rfl 0 rfl ?_
  refine x_iconst (v := (-1)) dX11_seal_7 (by decide) ?_
  refine x_icmp_eq (tgt := 34) dX11_seal_8 (by decide) (fun c8 => ?_) (fun c8 => ?_)
  · replace H := ite_p H c8
    refine Ex.sub [1] rfl ?_
    exact t_X11_seal_34 hd H
  · replace H := ite_m H c8
    refine x_aload_n dX11_seal_11 rfl 1 rfl ?_
    refine x_iload_n dX11_seal_12 rfl 2 rfl ?_
    obtain ⟨c50, H⟩ := ko_o H
    obtain ⟨v9, h10, hc11, H⟩ := bd_o H
    refine x_callVi (As := [.int x1]) (q := (RX11, TX11, 17)) dX11_seal_13 mi_X11_isPointer lk_X11_196 im_X11_isPointer se_X11_isPointer rfl c50 rfl rfl (Nat.le_of_ble_eq_true rfl) (t_X11_isPointer (by omega) hc11) ?_
    refine x_if_eq (tgt := 34) dX11_seal_16 (by decide) (fun c12 => ?_) (fun c12 => ?_)
    · replace H := ite_p H c12
      refine Ex.sub [1] rfl ?_
      exact t_X11_seal_34 hd H
    · replace H := ite_m H c12
      refine x_aload_n dX11_seal_19 rfl 1 rfl ?_
      obtain ⟨c13, H⟩ := ko_o H
      obtain ⟨a14, c15, H⟩ := kr_o H
      refine x_getR fr_X11_20 dX11_seal_20 c13 rfl c15 ?_
      obtain ⟨c16, H⟩ := ko_o H
      obtain ⟨a17, c18, H⟩ := kr_o H
      refine x_getR fr_X11_36 dX11_seal_23 c16 rfl c18 ?_
      refine x_iload_n dX11_seal_26 rfl 2 rfl ?_
      obtain ⟨n20, c19, H⟩ := ka_o H
      obtain ⟨c21, H⟩ := chk_o H
      obtain ⟨a22, c23, H⟩ := kr_o H
      refine x_aald dX11_seal_27 c19 (by decide) (inb_in.mp c21) c23 ?_
      obtain ⟨c49, H⟩ := ko_o H
      obtain ⟨v24, h25, hc26, H⟩ := bd_o H
      refine x_callVi (As := []) (q := (RX6, TX6, 8)) dX11_seal_28 mi_X6_isUsable lk_X11_269 im_X6_isUsable se_X6_isUsable rfl c49 rfl rfl (Nat.le_of_ble_eq_true rfl) (t_X6_isUsable (by omega) hc26) ?_
      refine x_if_ne (tgt := 40) dX11_seal_31 (by decide) (fun c27 => ?_) (fun c27 => ?_)
      · replace H := ite_m H c27
        refine x_aload_n dX11_seal_40 rfl 1 rfl ?_
        obtain ⟨c28, H⟩ := ko_o H
        obtain ⟨a29, c30, H⟩ := kr_o H
        refine x_getR fr_X11_30 dX11_seal_41 c28 rfl c30 ?_
        refine x_aload_n dX11_seal_44 rfl 1 rfl ?_
        obtain ⟨a31, c32, H⟩ := kr_o H
        refine x_getR fr_X11_20 dX11_seal_45 c28 rfl c32 ?_
        obtain ⟨c48, H⟩ := ko_o H
        obtain ⟨v33, h34, hc35, H⟩ := bd_o H
        refine x_callVv (As := [.ref a31]) (q := (RX2, TX2, 3)) dX11_seal_48 mi_X2_keep lk_X11_309 im_X2_keep se_X2_keep rfl c48 rfl rfl (Nat.le_of_ble_eq_true rfl) (t_X2_keep (by omega) hc35) ?_
        refine x_aload_n dX11_seal_51 rfl 1 rfl ?_
        obtain ⟨c36, H⟩ := ko_o H
        obtain ⟨a37, c38, H⟩ := kr_o H
        refine x_getR fr_X11_20 dX11_seal_52 c36 rfl c38 ?_
        obtain ⟨c39, H⟩ := ko_o H
        obtain ⟨a40, c41, H⟩ := kr_o H
        refine x_getR fr_X11_36 dX11_seal_55 c39 rfl c41 ?_
        refine x_iload_n dX11_seal_58 rfl 2 rfl ?_
        obtain ⟨n43, c42, H⟩ := ka_o H
        obtain ⟨c44, H⟩ := chk_o H
        obtain ⟨a45, c46, H⟩ := kr_o H
        refine x_aald dX11_seal_59 c42 (by decide) (inb_in.mp c44) c46 ?_
        refine x_iload_n dX11_seal_60 rfl 0 rfl ?_
        obtain ⟨c47, H⟩ := ko_o H
        refine x_putI fl_X11_351 dX11_seal_61 c47 (fun e => by cases e) rfl ?_
        refine x_iload_n dX11_seal_64 rfl 0 rfl ?_
        obtain ⟨rfl, rfl⟩ := so_1 H
        exact x_iret dX11_seal_65 rfl rfl
      · replace H := ite_p H c27
        refine Ex.sub [1] rfl ?_
        exact t_X11_seal_34 hd H
def f_X11_unseal_19 (x0 : Nat) (h : aH) : Option (Int32 × aH) :=
  ko h x0 10 <|
  bd (f_X11_deny x0 4 h) fun v1 h2 =>
  chk (narrow .boolean (.int v1) = .int v1) <|
  some (v1, h2)
set_option maxRecDepth 100000 in
set_option maxHeartbeats 4000000 in
theorem t_X11_unseal_19 {Γ : gS} {d : Nat} (hd : 4 ≤ d) {x0 : Nat} {h : aH} {r : Int32} {h' : aH} (H : f_X11_unseal_19 x0 h = some (r, h')) : Ex Γ gX11_unseal d 19 [(0, .ref x0)] [] h (some (.int r)) h' := by
  unfold f_X11_unseal_19 at H
  obtain ⟨d, rfl⟩ : ∃ e, d = e + 1 := ⟨d - 1, by omega⟩
  refine x_aload_n dX11_unseal_19 rfl 0 rfl ?_
  refine x_iconst (v := 4) dX11_unseal_20 (by decide) ?_
  obtain ⟨c5, H⟩ := ko_o H
  obtain ⟨v1, h2, hc3, H⟩ := bd_o H
  refine x_callVi (As := [.int 4]) (q := (RX11, TX11, 17)) dX11_unseal_21 mi_X11_deny lk_X11_115 im_X11_deny se_X11_deny rfl c5 rfl rfl (Nat.le_of_ble_eq_true rfl) (t_X11_deny (by omega) hc3) ?_
  obtain ⟨c4, H⟩ := chk_o H
  obtain ⟨rfl, rfl⟩ := so_1 H
  exact x_iret dX11_unseal_24 rfl c4
def f_X11_unseal_53 (x0 : Nat) (h : aH) : Option (Int32 × aH) :=
  ko h x0 10 <|
  bd (f_X11_deny x0 4 h) fun v6 h7 =>
  chk (narrow .boolean (.int v6) = .int v6) <|
  some (v6, h7)
set_option maxRecDepth 100000 in
set_option maxHeartbeats 4000000 in
theorem t_X11_unseal_53 {Γ : gS} {d : Nat} (hd : 4 ≤ d) {x0 : Nat} {h : aH} {r : Int32} {h' : aH} (H : f_X11_unseal_53 x0 h = some (r, h')) : Ex Γ gX11_unseal d 53 [(0, .ref x0)] [] h (some (.int r)) h' := by
  unfold f_X11_unseal_53 at H
  obtain ⟨d, rfl⟩ : ∃ e, d = e + 1 := ⟨d - 1, by omega⟩
  refine x_aload_n dX11_unseal_53 rfl 0 rfl ?_
  refine x_iconst (v := 4) dX11_unseal_54 (by decide) ?_
  obtain ⟨c10, H⟩ := ko_o H
  obtain ⟨v6, h7, hc8, H⟩ := bd_o H
  refine x_callVi (As := [.int 4]) (q := (RX11, TX11, 17)) dX11_unseal_55 mi_X11_deny lk_X11_115 im_X11_deny se_X11_deny rfl c10 rfl rfl (Nat.le_of_ble_eq_true rfl) (t_X11_deny (by omega) hc8) ?_
  obtain ⟨c9, H⟩ := chk_o H
  obtain ⟨rfl, rfl⟩ := so_1 H
  exact x_iret dX11_unseal_58 rfl c9
def f_X11_unseal (x0 : Nat) (x1 : Int32) (x2 : Int32) (h : aH) : Option (Int32 × aH) :=
  ko h x0 10 <|
  bd (f_X11_kindOfKey x0 x2 h) fun v11 h12 =>
  if v11 = (-1) then
    f_X11_unseal_19 x0 h12
  else
    ko h12 x0 10 <|
    bd (f_X11_isPointer x0 x1 h12) fun v15 h16 =>
    if v15 = 0 then
      f_X11_unseal_19 x0 h16
    else
      ko h16 x0 10 <|
      kr (hR h16 x0 2) fun a20 =>
      ko h16 a20 9 <|
      kr (hR h16 a20 0) fun a23 =>
      ka h16 a23 (.object RX6) fun n26 =>
      chk (inb x1 n26 = true) <|
      kr (hR h16 a23 x1.toNatClampNeg) fun a28 =>
      ko h16 a28 6 <|
      if (hI h16 a28 1) = 0 then
        f_X11_unseal_53 x0 h16
      else
        if (hI h16 a28 7) = v11 then
          kr (hR h16 x0 4) fun a33 =>
          ko h16 a33 2 <|
          bd (f_X2_keep a33 a20 h16) fun _ h36 =>
          ko h36 a28 6 <|
          some (1, sI h36 a28 7 0)
        else
          f_X11_unseal_53 x0 h16
set_option maxRecDepth 100000 in
set_option maxHeartbeats 4000000 in
theorem t_X11_unseal {Γ : gS} {d : Nat} (hd : 4 ≤ d) {x0 : Nat} {x1 : Int32} {x2 : Int32} {h : aH} {r : Int32} {h' : aH} (H : f_X11_unseal x0 x1 x2 h = some (r, h')) : Mx Γ gX11_unseal d [.ref x0, .int x1, .int x2] h (some (.int r)) h' := by
  refine Mx.of (by decide +kernel) (Nat.le_of_ble_eq_true rfl) ?_
  unfold f_X11_unseal at H
  show Ex Γ gX11_unseal d 0 [(0, .ref x0), (1, .int x1), (2, .int x2)] [] h (some (.int r)) h'
  obtain ⟨d, rfl⟩ : ∃ e, d = e + 1 := ⟨d - 1, by omega⟩
  refine x_aload_n dX11_unseal_0 rfl 0 rfl ?_
  refine x_iload_n dX11_unseal_1 rfl 2 rfl ?_
  obtain ⟨c41, H⟩ := ko_o H
  obtain ⟨v11, h12, hc13, H⟩ := bd_o H
  refine x_callVi (As := [.int x2]) (q := (RX11, TX11, 17)) dX11_unseal_2 mi_X11_kindOfKey lk_X11_360 im_X11_kindOfKey se_X11_kindOfKey rfl c41 rfl rfl (Nat.le_of_ble_eq_true rfl) (t_X11_kindOfKey (by omega) hc13) ?_
  refine x_istore_n (lv' := [(3, .int v11), (0, .ref x0), (1, .int x1), (2, .int x2)]) dX11_unseal_5 rfl (by decide) rfl rfl ?_
  refine x_iload_n dX11_unseal_6 rfl 0 rfl ?_
  refine x_iconst (v := (-1)) dX11_unseal_7 (by decide) ?_
  refine x_icmp_eq (tgt := 19) dX11_unseal_8 (by decide) (fun c14 => ?_) (fun c14 => ?_)
  · replace H := ite_p H c14
    refine Ex.sub [1] rfl ?_
    exact t_X11_unseal_19 hd H
  · replace H := ite_m H c14
    refine x_aload_n dX11_unseal_11 rfl 1 rfl ?_
    refine x_iload_n dX11_unseal_12 rfl 2 rfl ?_
    obtain ⟨c40, H⟩ := ko_o H
    obtain ⟨v15, h16, hc17, H⟩ := bd_o H
    refine x_callVi (As := [.int x1]) (q := (RX11, TX11, 17)) dX11_unseal_13 mi_X11_isPointer lk_X11_196 im_X11_isPointer se_X11_isPointer rfl c40 rfl rfl (Nat.le_of_ble_eq_true rfl) (t_X11_isPointer (by omega) hc17) ?_
    refine x_if_ne (tgt := 25) dX11_unseal_16 (by decide) (fun c18 => ?_) (fun c18 => ?_)
    · replace H := ite_m H c18
      refine x_aload_n dX11_unseal_25 rfl 1 rfl ?_
      obtain ⟨c19, H⟩ := ko_o H
      obtain ⟨a20, c21, H⟩ := kr_o H
      refine x_getR fr_X11_20 dX11_unseal_26 c19 rfl c21 ?_
      obtain ⟨c22, H⟩ := ko_o H
      obtain ⟨a23, c24, H⟩ := kr_o H
      refine x_getR fr_X11_36 dX11_unseal_29 c22 rfl c24 ?_
      refine x_iload_n dX11_unseal_32 rfl 2 rfl ?_
      obtain ⟨n26, c25, H⟩ := ka_o H
      obtain ⟨c27, H⟩ := chk_o H
      obtain ⟨a28, c29, H⟩ := kr_o H
      refine x_aald dX11_unseal_33 c25 (by decide) (inb_in.mp c27) c29 ?_
      refine x_astore (lv' := [(4, .ref a28), (3, .int v11), (0, .ref x0), (1, .int x1), (2, .int x2)]) dX11_unseal_34 (by decide) rfl rfl ?_
      refine x_aload dX11_unseal_36 0 rfl ?_
      obtain ⟨c30, H⟩ := ko_o H
      refine x_getI fr_X11_143 dX11_unseal_38 c30 rfl ?_
      refine x_if_eq (tgt := 53) dX11_unseal_41 (by decide) (fun c31 => ?_) (fun c31 => ?_)
      · replace H := ite_p H c31
        refine Ex.sub [2] rfl ?_
        exact t_X11_unseal_53 hd H
      · replace H := ite_m H c31
        refine x_aload dX11_unseal_44 0 rfl ?_
        refine x_getI fr_X11_351 dX11_unseal_46 c30 rfl ?_
        refine x_iload_n dX11_unseal_49 rfl 1 rfl ?_
        refine x_icmp_eq (tgt := 59) dX11_unseal_50 (by decide) (fun c32 => ?_) (fun c32 => ?_)
        · replace H := ite_p H c32
          refine x_aload_n dX11_unseal_59 rfl 2 rfl ?_
          obtain ⟨a33, c34, H⟩ := kr_o H
          refine x_getR fr_X11_30 dX11_unseal_60 c19 rfl c34 ?_
          refine x_aload_n dX11_unseal_63 rfl 2 rfl ?_
          refine x_getR fr_X11_20 dX11_unseal_64 c19 rfl c21 ?_
          obtain ⟨c39, H⟩ := ko_o H
          obtain ⟨v35, h36, hc37, H⟩ := bd_o H
          refine x_callVv (As := [.ref a20]) (q := (RX2, TX2, 3)) dX11_unseal_67 mi_X2_keep lk_X11_309 im_X2_keep se_X2_keep rfl c39 rfl rfl (Nat.le_of_ble_eq_true rfl) (t_X2_keep (by omega) hc37) ?_
          refine x_aload dX11_unseal_70 0 rfl ?_
          refine x_iconst (v := 0) dX11_unseal_72 (by decide) ?_
          obtain ⟨c38, H⟩ := ko_o H
          refine x_putI fl_X11_351 dX11_unseal_73 c38 (fun e => by cases e) rfl ?_
          refine x_iconst (v := 1) dX11_unseal_76 (by decide) ?_
          obtain ⟨rfl, rfl⟩ := so_1 H
          exact x_iret dX11_unseal_77 rfl (by decide)
        · replace H := ite_m H c32
          refine Ex.sub [2] rfl ?_
          exact t_X11_unseal_53 hd H
    · replace H := ite_p H c18
      refine Ex.sub [1] rfl ?_
      exact t_X11_unseal_19 hd H
def f_X11_canFollow_88 (s0 : Int32) (h : aH) : Option (Int32 × aH) :=
  chk (narrow .boolean (.int s0) = .int s0) <|
  some (s0, h)
set_option maxRecDepth 100000 in
set_option maxHeartbeats 4000000 in
theorem t_X11_canFollow_88 {Γ : gS} {d : Nat} (hd : 5 ≤ d) {s0 : Int32} {h : aH} {r : Int32} {h' : aH} (H : f_X11_canFollow_88 s0 h = some (r, h')) : Ex Γ gX11_canFollow d 88 [] [.int s0] h (some (.int r)) h' := by
  unfold f_X11_canFollow_88 at H
  obtain ⟨d, rfl⟩ : ∃ e, d = e + 1 := ⟨d - 1, by omega⟩
  obtain ⟨c1, H⟩ := chk_o H
  obtain ⟨rfl, rfl⟩ := so_1 H
  exact x_iret dX11_canFollow_88 rfl c1
def f_X11_canFollow_87 (h : aH) : Option (Int32 × aH) :=
  f_X11_canFollow_88 0 h
set_option maxRecDepth 100000 in
set_option maxHeartbeats 4000000 in
theorem t_X11_canFollow_87 {Γ : gS} {d : Nat} (hd : 5 ≤ d) {h : aH} {r : Int32} {h' : aH} (H : f_X11_canFollow_87 h = some (r, h')) : Ex Γ gX11_canFollow d 87 [] [] h (some (.int r)) h' := by
  unfold f_X11_canFollow_87 at H
  obtain ⟨d, rfl⟩ : ∃ e, d = e + 1 := ⟨d - 1, by omega⟩
  refine x_iconst (v := 0) dX11_canFollow_87 (by decide) ?_
  exact t_X11_canFollow_88 hd H
def f_X11_canFollow (x0 : Nat) (x1 : Int32) (x2 : Int32) (h : aH) : Option (Int32 × aH) :=
  ko h x0 10 <|
  bd (f_X11_isPointer x0 x1 h) fun v2 h3 =>
  if v2 = 0 then
    some (0, h3)
  else
    ko h3 x0 10 <|
    kr (hR h3 x0 2) fun a7 =>
    ko h3 a7 9 <|
    kr (hR h3 a7 0) fun a10 =>
    ka h3 a10 (.object RX6) fun n13 =>
    chk (inb x1 n13 = true) <|
    kr (hR h3 a10 x1.toNatClampNeg) fun a15 =>
    ko h3 a15 6 <|
    bd (f_X6_isUsable a15 h3) fun v17 h18 =>
    if v17 = 0 then
      f_X11_canFollow_87 h18
    else
      ko h18 a15 6 <|
      if ((hI h18 a15 6) &&& x2) = 0 then
        f_X11_canFollow_87 h18
      else
        ko h18 x0 10 <|
        kr (hR h18 x0 9) fun a24 =>
        ko h18 a24 4 <|
        if (hI h18 a24 1) ≤ (hI h18 a15 2) then
          f_X11_canFollow_87 h18
        else
          bd (f_X6_covers a15 (hI h18 a15 2) (hI h18 a24 2) h18) fun v28 h29 =>
          if v28 = 0 then
            f_X11_canFollow_87 h29
          else
            ko h29 x0 10 <|
            kr (hR h29 x0 5) fun a33 =>
            kr (hR h29 x0 9) fun a35 =>
            ko h29 a33 0 <|
            bd (f_X0_isTrapped a33 a35 a15 h29) fun v37 h38 =>
            if v37 = 0 then
              f_X11_canFollow_88 1 h38
            else
              f_X11_canFollow_87 h38
set_option maxRecDepth 100000 in
set_option maxHeartbeats 4000000 in
theorem t_X11_canFollow {Γ : gS} {d : Nat} (hd : 5 ≤ d) {x0 : Nat} {x1 : Int32} {x2 : Int32} {h : aH} {r : Int32} {h' : aH} (H : f_X11_canFollow x0 x1 x2 h = some (r, h')) : Mx Γ gX11_canFollow d [.ref x0, .int x1, .int x2] h (some (.int r)) h' := by
  refine Mx.of (by decide +kernel) (Nat.le_of_ble_eq_true rfl) ?_
  unfold f_X11_canFollow at H
  show Ex Γ gX11_canFollow d 0 [(0, .ref x0), (1, .int x1), (2, .int x2)] [] h (some (.int r)) h'
  obtain ⟨d, rfl⟩ : ∃ e, d = e + 1 := ⟨d - 1, by omega⟩
  refine x_aload_n dX11_canFollow_0 rfl 0 rfl ?_
  refine x_iload_n dX11_canFollow_1 rfl 1 rfl ?_
  obtain ⟨c43, H⟩ := ko_o H
  obtain ⟨v2, h3, hc4, H⟩ := bd_o H
  refine x_callVi (As := [.int x1]) (q := (RX11, TX11, 17)) dX11_canFollow_2 mi_X11_isPointer lk_X11_196 im_X11_isPointer se_X11_isPointer rfl c43 rfl rfl (Nat.le_of_ble_eq_true rfl) (t_X11_isPointer (by omega) hc4) ?_
  refine x_if_ne (tgt := 10) dX11_canFollow_5 (by decide) (fun c5 => ?_) (fun c5 => ?_)
  · replace H := ite_m H c5
    refine x_aload_n dX11_canFollow_10 rfl 0 rfl ?_
    obtain ⟨c6, H⟩ := ko_o H
    obtain ⟨a7, c8, H⟩ := kr_o H
    refine x_getR fr_X11_20 dX11_canFollow_11 c6 rfl c8 ?_
    obtain ⟨c9, H⟩ := ko_o H
    obtain ⟨a10, c11, H⟩ := kr_o H
    refine x_getR fr_X11_36 dX11_canFollow_14 c9 rfl c11 ?_
    refine x_iload_n dX11_canFollow_17 rfl 1 rfl ?_
    obtain ⟨n13, c12, H⟩ := ka_o H
    obtain ⟨c14, H⟩ := chk_o H
    obtain ⟨a15, c16, H⟩ := kr_o H
    refine x_aald dX11_canFollow_18 c12 (by decide) (inb_in.mp c14) c16 ?_
    refine x_astore_n (lv' := [(3, .ref a15), (0, .ref x0), (1, .int x1), (2, .int x2)]) dX11_canFollow_19 rfl (by decide) rfl rfl ?_
    refine x_aload_n dX11_canFollow_20 rfl 0 rfl ?_
    obtain ⟨c42, H⟩ := ko_o H
    obtain ⟨v17, h18, hc19, H⟩ := bd_o H
    refine x_callVi (As := []) (q := (RX6, TX6, 8)) dX11_canFollow_21 mi_X6_isUsable lk_X11_269 im_X6_isUsable se_X6_isUsable rfl c42 rfl rfl (Nat.le_of_ble_eq_true rfl) (t_X6_isUsable (by omega) hc19) ?_
    refine x_if_eq (tgt := 87) dX11_canFollow_24 (by decide) (fun c20 => ?_) (fun c20 => ?_)
    · replace H := ite_p H c20
      refine Ex.sub [] rfl ?_
      exact t_X11_canFollow_87 hd H
    · replace H := ite_m H c20
      refine x_aload_n dX11_canFollow_27 rfl 0 rfl ?_
      obtain ⟨c21, H⟩ := ko_o H
      refine x_getI fr_X11_148 dX11_canFollow_28 c21 rfl ?_
      refine x_iload_n dX11_canFollow_31 rfl 3 rfl ?_
      refine x_iand dX11_canFollow_32 ?_
      refine x_if_eq (tgt := 87) dX11_canFollow_33 (by decide) (fun c22 => ?_) (fun c22 => ?_)
      · replace H := ite_p H c22
        refine Ex.sub [] rfl ?_
        exact t_X11_canFollow_87 hd H
      · replace H := ite_m H c22
        refine x_aload_n dX11_canFollow_36 rfl 0 rfl ?_
        refine x_getI fr_X11_330 dX11_canFollow_37 c21 rfl ?_
        refine x_aload_n dX11_canFollow_40 rfl 1 rfl ?_
        obtain ⟨c23, H⟩ := ko_o H
        obtain ⟨a24, c25, H⟩ := kr_o H
        refine x_getR fr_X11_73 dX11_canFollow_41 c23 rfl c25 ?_
        obtain ⟨c26, H⟩ := ko_o H
        refine x_getI fr_X11_160 dX11_canFollow_44 c26 rfl ?_
        refine x_icmp_ge (tgt := 87) dX11_canFollow_47 (by decide) (fun c27 => ?_) (fun c27 => ?_)
        · replace H := ite_p H c27
          refine Ex.sub [] rfl ?_
          exact t_X11_canFollow_87 hd H
        · replace H := ite_m H c27
          refine x_aload_n dX11_canFollow_50 rfl 0 rfl ?_
          refine x_aload_n dX11_canFollow_51 rfl 0 rfl ?_
          refine x_getI fr_X11_330 dX11_canFollow_52 c21 rfl ?_
          refine x_aload_n dX11_canFollow_55 rfl 1 rfl ?_
          refine x_getR fr_X11_73 dX11_canFollow_56 c23 rfl c25 ?_
          refine x_getI fr_X11_151 dX11_canFollow_59 c26 rfl ?_
          obtain ⟨v28, h29, hc30, H⟩ := bd_o H
          refine x_callVi (As := [.int (hI h18 a15 2), .int (hI h18 a24 2)]) (q := (RX6, TX6, 8)) dX11_canFollow_62 mi_X6_covers lk_X11_273 im_X6_covers se_X6_covers rfl c21 rfl rfl (Nat.le_of_ble_eq_true rfl) (t_X6_covers (by omega) hc30) ?_
          refine x_if_eq (tgt := 87) dX11_canFollow_65 (by decide) (fun c31 => ?_) (fun c31 => ?_)
          · replace H := ite_p H c31
            refine Ex.sub [] rfl ?_
            exact t_X11_canFollow_87 hd H
          · replace H := ite_m H c31
            refine x_aload_n dX11_canFollow_68 rfl 1 rfl ?_
            obtain ⟨c32, H⟩ := ko_o H
            obtain ⟨a33, c34, H⟩ := kr_o H
            refine x_getR fr_X11_43 dX11_canFollow_69 c32 rfl c34 ?_
            refine x_aload_n dX11_canFollow_72 rfl 1 rfl ?_
            obtain ⟨a35, c36, H⟩ := kr_o H
            refine x_getR fr_X11_73 dX11_canFollow_73 c32 rfl c36 ?_
            refine x_aload_n dX11_canFollow_76 rfl 0 rfl ?_
            obtain ⟨c41, H⟩ := ko_o H
            obtain ⟨v37, h38, hc39, H⟩ := bd_o H
            refine x_callVi (As := [.ref a35, .ref a15]) (q := (RX0, TX0, 6)) dX11_canFollow_77 mi_X0_isTrapped lk_X11_369 im_X0_isTrapped se_X0_isTrapped rfl c41 rfl rfl (Nat.le_of_ble_eq_true rfl) (t_X0_isTrapped (by omega) hc39) ?_
            refine x_if_ne (tgt := 87) dX11_canFollow_80 (by decide) (fun c40 => ?_) (fun c40 => ?_)
            · replace H := ite_m H c40
              refine Ex.sub [] rfl ?_
              exact t_X11_canFollow_87 hd H
            · replace H := ite_p H c40
              refine x_iconst (v := 1) dX11_canFollow_83 (by decide) ?_
              refine x_goto (tgt := 88) dX11_canFollow_84 (by decide) ?_
              refine Ex.sub [] rfl ?_
              exact t_X11_canFollow_88 hd H
  · replace H := ite_p H c5
    refine x_iconst (v := 0) dX11_canFollow_8 (by decide) ?_
    obtain ⟨rfl, rfl⟩ := so_1 H
    exact x_iret dX11_canFollow_9 rfl (by decide)
def f_X11_load (x0 : Nat) (x1 : Int32) (h : aH) : Option (Int32 × aH) :=
  ko h x0 10 <|
  bd (f_X11_canFollow x0 x1 1 h) fun v1 h2 =>
  if v1 = 0 then
    ko h2 x0 10 <|
    bd (f_X11_refuse x0 5 h2) fun v20 h21 =>
    some (v20, h21)
  else
    ko h2 x0 10 <|
    kr (hR h2 x0 2) fun a6 =>
    ko h2 a6 9 <|
    kr (hR h2 a6 0) fun a9 =>
    ka h2 a9 (.object RX6) fun n12 =>
    chk (inb x1 n12 = true) <|
    kr (hR h2 a9 x1.toNatClampNeg) fun a14 =>
    ko h2 a14 6 <|
    bd (f_X9_byteAt a6 (hI h2 a14 2) h2) fun v17 h18 =>
    some (v17, h18)
set_option maxRecDepth 100000 in
set_option maxHeartbeats 4000000 in
theorem t_X11_load {Γ : gS} {d : Nat} (hd : 6 ≤ d) {x0 : Nat} {x1 : Int32} {h : aH} {r : Int32} {h' : aH} (H : f_X11_load x0 x1 h = some (r, h')) : Mx Γ gX11_load d [.ref x0, .int x1] h (some (.int r)) h' := by
  refine Mx.of (by decide +kernel) (Nat.le_of_ble_eq_true rfl) ?_
  unfold f_X11_load at H
  show Ex Γ gX11_load d 0 [(0, .ref x0), (1, .int x1)] [] h (some (.int r)) h'
  obtain ⟨d, rfl⟩ : ∃ e, d = e + 1 := ⟨d - 1, by omega⟩
  refine x_aload_n dX11_load_0 rfl 0 rfl ?_
  refine x_iload_n dX11_load_1 rfl 1 rfl ?_
  refine x_iconst (v := 1) dX11_load_2 (by decide) ?_
  obtain ⟨c24, H⟩ := ko_o H
  obtain ⟨v1, h2, hc3, H⟩ := bd_o H
  refine x_callVi (As := [.int x1, .int 1]) (q := (RX11, TX11, 17)) dX11_load_3 mi_X11_canFollow lk_X11_363 im_X11_canFollow se_X11_canFollow rfl c24 rfl rfl (Nat.le_of_ble_eq_true rfl) (t_X11_canFollow (by omega) hc3) ?_
  refine x_if_ne (tgt := 15) dX11_load_6 (by decide) (fun c4 => ?_) (fun c4 => ?_)
  · replace H := ite_m H c4
    refine x_aload_n dX11_load_15 rfl 0 rfl ?_
    obtain ⟨c5, H⟩ := ko_o H
    obtain ⟨a6, c7, H⟩ := kr_o H
    refine x_getR fr_X11_20 dX11_load_16 c5 rfl c7 ?_
    refine x_aload_n dX11_load_19 rfl 0 rfl ?_
    refine x_getR fr_X11_20 dX11_load_20 c5 rfl c7 ?_
    obtain ⟨c8, H⟩ := ko_o H
    obtain ⟨a9, c10, H⟩ := kr_o H
    refine x_getR fr_X11_36 dX11_load_23 c8 rfl c10 ?_
    refine x_iload_n dX11_load_26 rfl 1 rfl ?_
    obtain ⟨n12, c11, H⟩ := ka_o H
    obtain ⟨c13, H⟩ := chk_o H
    obtain ⟨a14, c15, H⟩ := kr_o H
    refine x_aald dX11_load_27 c11 (by decide) (inb_in.mp c13) c15 ?_
    obtain ⟨c16, H⟩ := ko_o H
    refine x_getI fr_X11_330 dX11_load_28 c16 rfl ?_
    obtain ⟨v17, h18, hc19, H⟩ := bd_o H
    refine x_callVi (As := [.int (hI h2 a14 2)]) (q := (RX9, TX9, 8)) dX11_load_31 mi_X9_byteAt lk_X11_231 im_X9_byteAt se_X9_byteAt rfl c8 rfl rfl (Nat.le_of_ble_eq_true rfl) (t_X9_byteAt (by omega) hc19) ?_
    obtain ⟨rfl, rfl⟩ := so_1 H
    exact x_iret dX11_load_34 rfl rfl
  · replace H := ite_p H c4
    refine x_aload_n dX11_load_9 rfl 0 rfl ?_
    refine x_iconst (v := 5) dX11_load_10 (by decide) ?_
    obtain ⟨c23, H⟩ := ko_o H
    obtain ⟨v20, h21, hc22, H⟩ := bd_o H
    refine x_callVi (As := [.int 5]) (q := (RX11, TX11, 17)) dX11_load_11 mi_X11_refuse lk_X11_107 im_X11_refuse se_X11_refuse rfl c23 rfl rfl (Nat.le_of_ble_eq_true rfl) (t_X11_refuse (by omega) hc22) ?_
    obtain ⟨rfl, rfl⟩ := so_1 H
    exact x_iret dX11_load_14 rfl rfl
def f_X11_store_20 (x0 : Nat) (h : aH) : Option (Int32 × aH) :=
  ko h x0 10 <|
  bd (f_X11_deny x0 5 h) fun v1 h2 =>
  chk (narrow .boolean (.int v1) = .int v1) <|
  some (v1, h2)
set_option maxRecDepth 100000 in
set_option maxHeartbeats 4000000 in
theorem t_X11_store_20 {Γ : gS} {d : Nat} (hd : 6 ≤ d) {x0 : Nat} {h : aH} {r : Int32} {h' : aH} (H : f_X11_store_20 x0 h = some (r, h')) : Ex Γ gX11_store d 20 [(0, .ref x0)] [] h (some (.int r)) h' := by
  unfold f_X11_store_20 at H
  obtain ⟨d, rfl⟩ : ∃ e, d = e + 1 := ⟨d - 1, by omega⟩
  refine x_aload_n dX11_store_20 rfl 0 rfl ?_
  refine x_iconst (v := 5) dX11_store_21 (by decide) ?_
  obtain ⟨c5, H⟩ := ko_o H
  obtain ⟨v1, h2, hc3, H⟩ := bd_o H
  refine x_callVi (As := [.int 5]) (q := (RX11, TX11, 17)) dX11_store_22 mi_X11_deny lk_X11_115 im_X11_deny se_X11_deny rfl c5 rfl rfl (Nat.le_of_ble_eq_true rfl) (t_X11_deny (by omega) hc3) ?_
  obtain ⟨c4, H⟩ := chk_o H
  obtain ⟨rfl, rfl⟩ := so_1 H
  exact x_iret dX11_store_25 rfl c4
def f_X11_store (x0 : Nat) (x1 : Int32) (x2 : Int32) (h : aH) : Option (Int32 × aH) :=
  if x2 < 0 then
    f_X11_store_20 x0 h
  else
    if 255 < x2 then
      f_X11_store_20 x0 h
    else
      ko h x0 10 <|
      bd (f_X11_canFollow x0 x1 2 h) fun v8 h9 =>
      if v8 = 0 then
        f_X11_store_20 x0 h9
      else
        ko h9 x0 10 <|
        kr (hR h9 x0 4) fun a13 =>
        kr (hR h9 x0 2) fun a15 =>
        ko h9 a13 2 <|
        bd (f_X2_keep a13 a15 h9) fun _ h18 =>
        ko h18 x0 10 <|
        kr (hR h18 x0 2) fun a21 =>
        ko h18 a21 9 <|
        kr (hR h18 a21 0) fun a24 =>
        ka h18 a24 (.object RX6) fun n27 =>
        chk (inb x1 n27 = true) <|
        kr (hR h18 a24 x1.toNatClampNeg) fun a29 =>
        ko h18 a29 6 <|
        bd (f_X9_setByte a21 (hI h18 a29 2) x2 h18) fun _ h33 =>
        some (1, h33)
set_option maxRecDepth 100000 in
set_option maxHeartbeats 4000000 in
theorem t_X11_store {Γ : gS} {d : Nat} (hd : 6 ≤ d) {x0 : Nat} {x1 : Int32} {x2 : Int32} {h : aH} {r : Int32} {h' : aH} (H : f_X11_store x0 x1 x2 h = some (r, h')) : Mx Γ gX11_store d [.ref x0, .int x1, .int x2] h (some (.int r)) h' := by
  refine Mx.of (by decide +kernel) (Nat.le_of_ble_eq_true rfl) ?_
  unfold f_X11_store at H
  show Ex Γ gX11_store d 0 [(0, .ref x0), (1, .int x1), (2, .int x2)] [] h (some (.int r)) h'
  obtain ⟨d, rfl⟩ : ∃ e, d = e + 1 := ⟨d - 1, by omega⟩
  refine x_iload_n dX11_store_0 rfl 2 rfl ?_
  refine x_if_lt (tgt := 20) dX11_store_1 (by decide) (fun c6 => ?_) (fun c6 => ?_)
  · replace H := ite_p H c6
    refine Ex.sub [0] rfl ?_
    exact t_X11_store_20 hd H
  · replace H := ite_m H c6
    refine x_iload_n dX11_store_4 rfl 2 rfl ?_
    refine x_sipush (v := 255) dX11_store_5 (by decide) ?_
    refine x_icmp_gt (tgt := 20) dX11_store_8 (by decide) (fun c7 => ?_) (fun c7 => ?_)
    · replace H := ite_p H c7
      refine Ex.sub [0] rfl ?_
      exact t_X11_store_20 hd H
    · replace H := ite_m H c7
      refine x_aload_n dX11_store_11 rfl 0 rfl ?_
      refine x_iload_n dX11_store_12 rfl 1 rfl ?_
      refine x_iconst (v := 2) dX11_store_13 (by decide) ?_
      obtain ⟨c36, H⟩ := ko_o H
      obtain ⟨v8, h9, hc10, H⟩ := bd_o H
      refine x_callVi (As := [.int x1, .int 2]) (q := (RX11, TX11, 17)) dX11_store_14 mi_X11_canFollow lk_X11_363 im_X11_canFollow se_X11_canFollow rfl c36 rfl rfl (Nat.le_of_ble_eq_true rfl) (t_X11_canFollow (by omega) hc10) ?_
      refine x_if_ne (tgt := 26) dX11_store_17 (by decide) (fun c11 => ?_) (fun c11 => ?_)
      · replace H := ite_m H c11
        refine x_aload_n dX11_store_26 rfl 0 rfl ?_
        obtain ⟨c12, H⟩ := ko_o H
        obtain ⟨a13, c14, H⟩ := kr_o H
        refine x_getR fr_X11_30 dX11_store_27 c12 rfl c14 ?_
        refine x_aload_n dX11_store_30 rfl 0 rfl ?_
        obtain ⟨a15, c16, H⟩ := kr_o H
        refine x_getR fr_X11_20 dX11_store_31 c12 rfl c16 ?_
        obtain ⟨c35, H⟩ := ko_o H
        obtain ⟨v17, h18, hc19, H⟩ := bd_o H
        refine x_callVv (As := [.ref a15]) (q := (RX2, TX2, 3)) dX11_store_34 mi_X2_keep lk_X11_309 im_X2_keep se_X2_keep rfl c35 rfl rfl (Nat.le_of_ble_eq_true rfl) (t_X2_keep (by omega) hc19) ?_
        refine x_aload_n dX11_store_37 rfl 0 rfl ?_
        obtain ⟨c20, H⟩ := ko_o H
        obtain ⟨a21, c22, H⟩ := kr_o H
        refine x_getR fr_X11_20 dX11_store_38 c20 rfl c22 ?_
        refine x_aload_n dX11_store_41 rfl 0 rfl ?_
        refine x_getR fr_X11_20 dX11_store_42 c20 rfl c22 ?_
        obtain ⟨c23, H⟩ := ko_o H
        obtain ⟨a24, c25, H⟩ := kr_o H
        refine x_getR fr_X11_36 dX11_store_45 c23 rfl c25 ?_
        refine x_iload_n dX11_store_48 rfl 1 rfl ?_
        obtain ⟨n27, c26, H⟩ := ka_o H
        obtain ⟨c28, H⟩ := chk_o H
        obtain ⟨a29, c30, H⟩ := kr_o H
        refine x_aald dX11_store_49 c26 (by decide) (inb_in.mp c28) c30 ?_
        obtain ⟨c31, H⟩ := ko_o H
        refine x_getI fr_X11_330 dX11_store_50 c31 rfl ?_
        refine x_iload_n dX11_store_53 rfl 2 rfl ?_
        obtain ⟨v32, h33, hc34, H⟩ := bd_o H
        refine x_callVv (As := [.int (hI h18 a29 2), .int x2]) (q := (RX9, TX9, 8)) dX11_store_54 mi_X9_setByte lk_X11_366 im_X9_setByte se_X9_setByte rfl c23 rfl rfl (Nat.le_of_ble_eq_true rfl) (t_X9_setByte (by omega) hc34) ?_
        refine x_iconst (v := 1) dX11_store_57 (by decide) ?_
        obtain ⟨rfl, rfl⟩ := so_1 H
        exact x_iret dX11_store_58 rfl (by decide)
      · replace H := ite_p H c11
        refine Ex.sub [0] rfl ?_
        exact t_X11_store_20 hd H
def b_X11_emptyPlace_2 (k2 : Nat → Int32 → Int32 → aH → Option (Int32 × aH)) (x0 : Nat) (x1 : Int32) (x2 : Int32) (h : aH) : Option (Int32 × aH) :=
  if 4 ≤ x2 then
    some ((-1), h)
  else
    ko h x0 10 <|
    kr (hR h x0 2) fun a3 =>
    ko h a3 9 <|
    kr (hR h a3 0) fun a6 =>
    bd (f_X11_placeIndex x1 x2 h) fun v8 h9 =>
    ka h9 a6 (.object RX6) fun n12 =>
    chk (inb v8 n12 = true) <|
    kr (hR h9 a6 v8.toNatClampNeg) fun a14 =>
    ko h9 a14 6 <|
    if (hI h9 a14 0) = 0 then
      some (x2, h9)
    else
      nm (x2 + 1) fun (v18 : Int32) =>
      k2 x0 x1 v18 h9
set_option maxRecDepth 100000 in
set_option maxHeartbeats 4000000 in
theorem tb_X11_emptyPlace_2 {Γ : gS} {d : Nat} (hd : 1 ≤ d) {k2 : Nat → Int32 → Int32 → aH → Option (Int32 × aH)} (hk2 : ∀ {x0 : Nat} {x1 : Int32} {x2 : Int32} {h : aH} {r : Int32} {h' : aH}, k2 x0 x1 x2 h = some (r, h') → Ex Γ gX11_emptyPlace d 2 [(0, .ref x0), (1, .int x1), (2, .int x2)] [] h (some (.int r)) h') {x0 : Nat} {x1 : Int32} {x2 : Int32} {h : aH} {r : Int32} {h' : aH} (H : b_X11_emptyPlace_2 k2 x0 x1 x2 h = some (r, h')) : Ex Γ gX11_emptyPlace d 2 [(0, .ref x0), (1, .int x1), (2, .int x2)] [] h (some (.int r)) h' := by
  unfold b_X11_emptyPlace_2 at H
  obtain ⟨d, rfl⟩ : ∃ e, d = e + 1 := ⟨d - 1, by omega⟩
  refine x_iload_n dX11_emptyPlace_2 rfl 2 rfl ?_
  refine x_iconst (v := 4) dX11_emptyPlace_3 (by decide) ?_
  refine x_icmp_ge (tgt := 34) dX11_emptyPlace_4 (by decide) (fun c1 => ?_) (fun c1 => ?_)
  · replace H := ite_p H c1
    refine x_iconst (v := (-1)) dX11_emptyPlace_34 (by decide) ?_
    obtain ⟨rfl, rfl⟩ := so_1 H
    exact x_iret dX11_emptyPlace_35 rfl rfl
  · replace H := ite_m H c1
    refine x_aload_n dX11_emptyPlace_7 rfl 0 rfl ?_
    obtain ⟨c2, H⟩ := ko_o H
    obtain ⟨a3, c4, H⟩ := kr_o H
    refine x_getR fr_X11_20 dX11_emptyPlace_8 c2 rfl c4 ?_
    obtain ⟨c5, H⟩ := ko_o H
    obtain ⟨a6, c7, H⟩ := kr_o H
    refine x_getR fr_X11_36 dX11_emptyPlace_11 c5 rfl c7 ?_
    refine x_iload_n dX11_emptyPlace_14 rfl 1 rfl ?_
    refine x_iload_n dX11_emptyPlace_15 rfl 2 rfl ?_
    obtain ⟨v8, h9, hc10, H⟩ := bd_o H
    refine x_callSi (As := [.int x1, .int x2]) dX11_emptyPlace_16 mi_X11_placeIndex lk_X11_207 sm_X11_placeIndex rfl rfl (Nat.le_of_ble_eq_true rfl) (t_X11_placeIndex (by omega) hc10) ?_
    obtain ⟨n12, c11, H⟩ := ka_o H
    obtain ⟨c13, H⟩ := chk_o H
    obtain ⟨a14, c15, H⟩ := kr_o H
    refine x_aald dX11_emptyPlace_19 c11 (by decide) (inb_in.mp c13) c15 ?_
    obtain ⟨c16, H⟩ := ko_o H
    refine x_getI fr_X11_210 dX11_emptyPlace_20 c16 rfl ?_
    refine x_if_ne (tgt := 28) dX11_emptyPlace_23 (by decide) (fun c17 => ?_) (fun c17 => ?_)
    · replace H := ite_m H c17
      obtain ⟨v18, ev18, H⟩ := nm_o H
      refine x_iinc (v := v18) (lv' := [(2, .int v18), (0, .ref x0), (1, .int x1)]) dX11_emptyPlace_28 2 rfl (by decide) ev18 rfl ?_
      refine x_goto (tgt := 2) dX11_emptyPlace_31 (by decide) ?_
      refine Ex.sub [1, 2, 0] rfl ?_
      exact hk2 H
    · replace H := ite_p H c17
      refine x_iload_n dX11_emptyPlace_26 rfl 2 rfl ?_
      obtain ⟨rfl, rfl⟩ := so_1 H
      exact x_iret dX11_emptyPlace_27 rfl rfl
def f_X11_emptyPlace_2 : Nat → Nat → Int32 → Int32 → aH → Option (Int32 × aH)
  | 0 => fun _ _ _ _ => none
  | n + 1 => b_X11_emptyPlace_2 (f_X11_emptyPlace_2 n)
set_option maxRecDepth 100000 in
set_option maxHeartbeats 4000000 in
theorem t_X11_emptyPlace_2 {Γ : gS} {d : Nat} (hd : 1 ≤ d) (n : Nat) : ∀ {x0 : Nat} {x1 : Int32} {x2 : Int32} {h : aH} {r : Int32} {h' : aH}, f_X11_emptyPlace_2 n x0 x1 x2 h = some (r, h') → Ex Γ gX11_emptyPlace d 2 [(0, .ref x0), (1, .int x1), (2, .int x2)] [] h (some (.int r)) h' := by
  induction n with
  | zero => intro x0 x1 x2 h r h' H; cases H
  | succ n ih => intro x0 x1 x2 h r h' H; exact tb_X11_emptyPlace_2 hd ih H
def f_X11_emptyPlace (x0 : Nat) (x1 : Int32) (h : aH) : Option (Int32 × aH) :=
  f_X11_emptyPlace_2 FU x0 x1 0 h
set_option maxRecDepth 100000 in
set_option maxHeartbeats 4000000 in
theorem t_X11_emptyPlace {Γ : gS} {d : Nat} (hd : 1 ≤ d) {x0 : Nat} {x1 : Int32} {h : aH} {r : Int32} {h' : aH} (H : f_X11_emptyPlace x0 x1 h = some (r, h')) : Mx Γ gX11_emptyPlace d [.ref x0, .int x1] h (some (.int r)) h' := by
  refine Mx.of (by decide +kernel) (Nat.le_of_ble_eq_true rfl) ?_
  unfold f_X11_emptyPlace at H
  show Ex Γ gX11_emptyPlace d 0 [(0, .ref x0), (1, .int x1)] [] h (some (.int r)) h'
  obtain ⟨d, rfl⟩ : ∃ e, d = e + 1 := ⟨d - 1, by omega⟩
  refine x_iconst (v := 0) dX11_emptyPlace_0 (by decide) ?_
  refine x_istore_n (lv' := [(2, .int 0), (0, .ref x0), (1, .int x1)]) dX11_emptyPlace_1 rfl (by decide) rfl rfl ?_
  refine Ex.sub [1, 2, 0] rfl ?_
  exact t_X11_emptyPlace_2 hd FU H
def f_X11_shelve_73 (x0 : Nat) (h : aH) : Option (Int32 × aH) :=
  ko h x0 10 <|
  bd (f_X11_refuse x0 4 h) fun v1 h2 =>
  some (v1, h2)
set_option maxRecDepth 100000 in
set_option maxHeartbeats 4000000 in
theorem t_X11_shelve_73 {Γ : gS} {d : Nat} (hd : 4 ≤ d) {x0 : Nat} {h : aH} {r : Int32} {h' : aH} (H : f_X11_shelve_73 x0 h = some (r, h')) : Ex Γ gX11_shelve d 73 [(0, .ref x0)] [] h (some (.int r)) h' := by
  unfold f_X11_shelve_73 at H
  obtain ⟨d, rfl⟩ : ∃ e, d = e + 1 := ⟨d - 1, by omega⟩
  refine x_aload_n dX11_shelve_73 rfl 0 rfl ?_
  refine x_iconst (v := 4) dX11_shelve_74 (by decide) ?_
  obtain ⟨c4, H⟩ := ko_o H
  obtain ⟨v1, h2, hc3, H⟩ := bd_o H
  refine x_callVi (As := [.int 4]) (q := (RX11, TX11, 17)) dX11_shelve_75 mi_X11_refuse lk_X11_107 im_X11_refuse se_X11_refuse rfl c4 rfl rfl (Nat.le_of_ble_eq_true rfl) (t_X11_refuse (by omega) hc3) ?_
  obtain ⟨rfl, rfl⟩ := so_1 H
  exact x_iret dX11_shelve_78 rfl rfl
def f_X11_shelve_25 (x0 : Nat) (x1 : Int32) (x2 : Int32) (s0 : Int32) (h : aH) : Option (Int32 × aH) :=
  if s0 = (-1) then
    ko h x0 10 <|
    bd (f_X11_refuse x0 4 h) fun v52 h53 =>
    some (v52, h53)
  else
    ko h x0 10 <|
    kr (hR h x0 2) fun a7 =>
    ko h a7 9 <|
    kr (hR h a7 0) fun a10 =>
    ka h a10 (.object RX6) fun n13 =>
    chk (inb x1 n13 = true) <|
    kr (hR h a10 x1.toNatClampNeg) fun a15 =>
    ko h a15 6 <|
    if (hI h a15 1) = 0 then
      f_X11_shelve_73 x0 h
    else
      kr (hR h x0 9) fun a19 =>
      ko h a19 4 <|
      kr (hR h a19 5) fun a22 =>
      ka h a22 .int fun n25 =>
      chk (inb x2 n25 = true) <|
      if (hI h a15 7) = (hI h a22 x2.toNatClampNeg) then
        kr (hR h x0 4) fun a28 =>
        ko h a28 2 <|
        bd (f_X2_keep a28 a7 h) fun _ h31 =>
        ko h31 x0 10 <|
        kr (hR h31 x0 2) fun a34 =>
        ko h31 a34 9 <|
        kr (hR h31 a34 0) fun a37 =>
        bd (f_X11_placeIndex x2 s0 h31) fun v39 h40 =>
        ka h40 a37 (.object RX6) fun n43 =>
        chk (inb v39 n43 = true) <|
        kr (hR h40 a37 v39.toNatClampNeg) fun a45 =>
        ko h40 a45 6 <|
        bd (f_X6_become a45 a15 h40) fun _ h48 =>
        some (s0, h48)
      else
        f_X11_shelve_73 x0 h
set_option maxRecDepth 100000 in
set_option maxHeartbeats 4000000 in
theorem t_X11_shelve_25 {Γ : gS} {d : Nat} (hd : 4 ≤ d) {x0 : Nat} {x1 : Int32} {x2 : Int32} {s0 : Int32} {h : aH} {r : Int32} {h' : aH} (H : f_X11_shelve_25 x0 x1 x2 s0 h = some (r, h')) : Ex Γ gX11_shelve d 25 [(0, .ref x0), (1, .int x1), (2, .int x2)] [.int s0] h (some (.int r)) h' := by
  unfold f_X11_shelve_25 at H
  obtain ⟨d, rfl⟩ : ∃ e, d = e + 1 := ⟨d - 1, by omega⟩
  refine x_istore_n (lv' := [(3, .int s0), (0, .ref x0), (1, .int x1), (2, .int x2)]) dX11_shelve_25 rfl (by decide) rfl rfl ?_
  refine x_iload_n dX11_shelve_26 rfl 0 rfl ?_
  refine x_iconst (v := (-1)) dX11_shelve_27 (by decide) ?_
  refine x_icmp_ne (tgt := 37) dX11_shelve_28 (by decide) (fun c5 => ?_) (fun c5 => ?_)
  · replace H := ite_m H c5
    refine x_aload_n dX11_shelve_37 rfl 1 rfl ?_
    obtain ⟨c6, H⟩ := ko_o H
    obtain ⟨a7, c8, H⟩ := kr_o H
    refine x_getR fr_X11_20 dX11_shelve_38 c6 rfl c8 ?_
    obtain ⟨c9, H⟩ := ko_o H
    obtain ⟨a10, c11, H⟩ := kr_o H
    refine x_getR fr_X11_36 dX11_shelve_41 c9 rfl c11 ?_
    refine x_iload_n dX11_shelve_44 rfl 2 rfl ?_
    obtain ⟨n13, c12, H⟩ := ka_o H
    obtain ⟨c14, H⟩ := chk_o H
    obtain ⟨a15, c16, H⟩ := kr_o H
    refine x_aald dX11_shelve_45 c12 (by decide) (inb_in.mp c14) c16 ?_
    refine x_astore (lv' := [(4, .ref a15), (3, .int s0), (0, .ref x0), (1, .int x1), (2, .int x2)]) dX11_shelve_46 (by decide) rfl rfl ?_
    refine x_aload dX11_shelve_48 0 rfl ?_
    obtain ⟨c17, H⟩ := ko_o H
    refine x_getI fr_X11_143 dX11_shelve_50 c17 rfl ?_
    refine x_if_eq (tgt := 73) dX11_shelve_53 (by decide) (fun c18 => ?_) (fun c18 => ?_)
    · replace H := ite_p H c18
      refine Ex.sub [2] rfl ?_
      exact t_X11_shelve_73 hd H
    · replace H := ite_m H c18
      refine x_aload dX11_shelve_56 0 rfl ?_
      refine x_getI fr_X11_351 dX11_shelve_58 c17 rfl ?_
      refine x_aload_n dX11_shelve_61 rfl 2 rfl ?_
      obtain ⟨a19, c20, H⟩ := kr_o H
      refine x_getR fr_X11_73 dX11_shelve_62 c6 rfl c20 ?_
      obtain ⟨c21, H⟩ := ko_o H
      obtain ⟨a22, c23, H⟩ := kr_o H
      refine x_getR fr_X11_376 dX11_shelve_65 c21 rfl c23 ?_
      refine x_iload_n dX11_shelve_68 rfl 4 rfl ?_
      obtain ⟨n25, c24, H⟩ := ka_o H
      obtain ⟨c26, H⟩ := chk_o H
      refine x_iald dX11_shelve_69 c24 (inb_in.mp c26) ?_
      refine x_icmp_eq (tgt := 79) dX11_shelve_70 (by decide) (fun c27 => ?_) (fun c27 => ?_)
      · replace H := ite_p H c27
        refine x_aload_n dX11_shelve_79 rfl 2 rfl ?_
        obtain ⟨a28, c29, H⟩ := kr_o H
        refine x_getR fr_X11_30 dX11_shelve_80 c6 rfl c29 ?_
        refine x_aload_n dX11_shelve_83 rfl 2 rfl ?_
        refine x_getR fr_X11_20 dX11_shelve_84 c6 rfl c8 ?_
        obtain ⟨c51, H⟩ := ko_o H
        obtain ⟨v30, h31, hc32, H⟩ := bd_o H
        refine x_callVv (As := [.ref a7]) (q := (RX2, TX2, 3)) dX11_shelve_87 mi_X2_keep lk_X11_309 im_X2_keep se_X2_keep rfl c51 rfl rfl (Nat.le_of_ble_eq_true rfl) (t_X2_keep (by omega) hc32) ?_
        refine x_aload_n dX11_shelve_90 rfl 2 rfl ?_
        obtain ⟨c33, H⟩ := ko_o H
        obtain ⟨a34, c35, H⟩ := kr_o H
        refine x_getR fr_X11_20 dX11_shelve_91 c33 rfl c35 ?_
        obtain ⟨c36, H⟩ := ko_o H
        obtain ⟨a37, c38, H⟩ := kr_o H
        refine x_getR fr_X11_36 dX11_shelve_94 c36 rfl c38 ?_
        refine x_iload_n dX11_shelve_97 rfl 4 rfl ?_
        refine x_iload_n dX11_shelve_98 rfl 1 rfl ?_
        obtain ⟨v39, h40, hc41, H⟩ := bd_o H
        refine x_callSi (As := [.int x2, .int s0]) dX11_shelve_99 mi_X11_placeIndex lk_X11_207 sm_X11_placeIndex rfl rfl (Nat.le_of_ble_eq_true rfl) (t_X11_placeIndex (by omega) hc41) ?_
        obtain ⟨n43, c42, H⟩ := ka_o H
        obtain ⟨c44, H⟩ := chk_o H
        obtain ⟨a45, c46, H⟩ := kr_o H
        refine x_aald dX11_shelve_102 c42 (by decide) (inb_in.mp c44) c46 ?_
        refine x_aload dX11_shelve_103 0 rfl ?_
        obtain ⟨c50, H⟩ := ko_o H
        obtain ⟨v47, h48, hc49, H⟩ := bd_o H
        refine x_callVv (As := [.ref a15]) (q := (RX6, TX6, 8)) dX11_shelve_105 mi_X6_become lk_X11_347 im_X6_become se_X6_become rfl c50 rfl rfl (Nat.le_of_ble_eq_true rfl) (t_X6_become (by omega) hc49) ?_
        refine x_iload_n dX11_shelve_108 rfl 1 rfl ?_
        obtain ⟨rfl, rfl⟩ := so_1 H
        exact x_iret dX11_shelve_109 rfl rfl
      · replace H := ite_m H c27
        refine Ex.sub [2] rfl ?_
        exact t_X11_shelve_73 hd H
  · replace H := ite_p H c5
    refine x_aload_n dX11_shelve_31 rfl 1 rfl ?_
    refine x_iconst (v := 4) dX11_shelve_32 (by decide) ?_
    obtain ⟨c55, H⟩ := ko_o H
    obtain ⟨v52, h53, hc54, H⟩ := bd_o H
    refine x_callVi (As := [.int 4]) (q := (RX11, TX11, 17)) dX11_shelve_33 mi_X11_refuse lk_X11_107 im_X11_refuse se_X11_refuse rfl c55 rfl rfl (Nat.le_of_ble_eq_true rfl) (t_X11_refuse (by omega) hc54) ?_
    obtain ⟨rfl, rfl⟩ := so_1 H
    exact x_iret dX11_shelve_36 rfl rfl
def f_X11_shelve_24 (x0 : Nat) (x1 : Int32) (x2 : Int32) (h : aH) : Option (Int32 × aH) :=
  f_X11_shelve_25 x0 x1 x2 (-1) h
set_option maxRecDepth 100000 in
set_option maxHeartbeats 4000000 in
theorem t_X11_shelve_24 {Γ : gS} {d : Nat} (hd : 4 ≤ d) {x0 : Nat} {x1 : Int32} {x2 : Int32} {h : aH} {r : Int32} {h' : aH} (H : f_X11_shelve_24 x0 x1 x2 h = some (r, h')) : Ex Γ gX11_shelve d 24 [(0, .ref x0), (1, .int x1), (2, .int x2)] [] h (some (.int r)) h' := by
  unfold f_X11_shelve_24 at H
  obtain ⟨d, rfl⟩ : ∃ e, d = e + 1 := ⟨d - 1, by omega⟩
  refine x_iconst (v := (-1)) dX11_shelve_24 (by decide) ?_
  exact t_X11_shelve_25 hd H
def f_X11_shelve (x0 : Nat) (x1 : Int32) (x2 : Int32) (h : aH) : Option (Int32 × aH) :=
  ko h x0 10 <|
  bd (f_X11_isPointer x0 x1 h) fun v56 h57 =>
  if v56 = 0 then
    f_X11_shelve_24 x0 x1 x2 h57
  else
    ko h57 x0 10 <|
    bd (f_X11_isShelf x0 x2 h57) fun v60 h61 =>
    if v60 = 0 then
      f_X11_shelve_24 x0 x1 x2 h61
    else
      ko h61 x0 10 <|
      bd (f_X11_emptyPlace x0 x2 h61) fun v64 h65 =>
      f_X11_shelve_25 x0 x1 x2 v64 h65
set_option maxRecDepth 100000 in
set_option maxHeartbeats 4000000 in
theorem t_X11_shelve {Γ : gS} {d : Nat} (hd : 4 ≤ d) {x0 : Nat} {x1 : Int32} {x2 : Int32} {h : aH} {r : Int32} {h' : aH} (H : f_X11_shelve x0 x1 x2 h = some (r, h')) : Mx Γ gX11_shelve d [.ref x0, .int x1, .int x2] h (some (.int r)) h' := by
  refine Mx.of (by decide +kernel) (Nat.le_of_ble_eq_true rfl) ?_
  unfold f_X11_shelve at H
  show Ex Γ gX11_shelve d 0 [(0, .ref x0), (1, .int x1), (2, .int x2)] [] h (some (.int r)) h'
  obtain ⟨d, rfl⟩ : ∃ e, d = e + 1 := ⟨d - 1, by omega⟩
  refine x_aload_n dX11_shelve_0 rfl 0 rfl ?_
  refine x_iload_n dX11_shelve_1 rfl 1 rfl ?_
  obtain ⟨c69, H⟩ := ko_o H
  obtain ⟨v56, h57, hc58, H⟩ := bd_o H
  refine x_callVi (As := [.int x1]) (q := (RX11, TX11, 17)) dX11_shelve_2 mi_X11_isPointer lk_X11_196 im_X11_isPointer se_X11_isPointer rfl c69 rfl rfl (Nat.le_of_ble_eq_true rfl) (t_X11_isPointer (by omega) hc58) ?_
  refine x_if_eq (tgt := 24) dX11_shelve_5 (by decide) (fun c59 => ?_) (fun c59 => ?_)
  · replace H := ite_p H c59
    exact t_X11_shelve_24 hd H
  · replace H := ite_m H c59
    refine x_aload_n dX11_shelve_8 rfl 0 rfl ?_
    refine x_iload_n dX11_shelve_9 rfl 2 rfl ?_
    obtain ⟨c68, H⟩ := ko_o H
    obtain ⟨v60, h61, hc62, H⟩ := bd_o H
    refine x_callVi (As := [.int x2]) (q := (RX11, TX11, 17)) dX11_shelve_10 mi_X11_isShelf lk_X11_190 im_X11_isShelf se_X11_isShelf rfl c68 rfl rfl (Nat.le_of_ble_eq_true rfl) (t_X11_isShelf (by omega) hc62) ?_
    refine x_if_eq (tgt := 24) dX11_shelve_13 (by decide) (fun c63 => ?_) (fun c63 => ?_)
    · replace H := ite_p H c63
      exact t_X11_shelve_24 hd H
    · replace H := ite_m H c63
      refine x_aload_n dX11_shelve_16 rfl 0 rfl ?_
      refine x_iload_n dX11_shelve_17 rfl 2 rfl ?_
      obtain ⟨c67, H⟩ := ko_o H
      obtain ⟨v64, h65, hc66, H⟩ := bd_o H
      refine x_callVi (As := [.int x2]) (q := (RX11, TX11, 17)) dX11_shelve_18 mi_X11_emptyPlace lk_X11_373 im_X11_emptyPlace se_X11_emptyPlace rfl c67 rfl rfl (Nat.le_of_ble_eq_true rfl) (t_X11_emptyPlace (by omega) hc66) ?_
      refine x_goto (tgt := 25) dX11_shelve_21 (by decide) ?_
      exact t_X11_shelve_25 hd H
def f_X11_take_36 (x0 : Nat) (h : aH) : Option (Int32 × aH) :=
  ko h x0 10 <|
  bd (f_X11_deny x0 4 h) fun v1 h2 =>
  chk (narrow .boolean (.int v1) = .int v1) <|
  some (v1, h2)
set_option maxRecDepth 100000 in
set_option maxHeartbeats 4000000 in
theorem t_X11_take_36 {Γ : gS} {d : Nat} (hd : 4 ≤ d) {x0 : Nat} {h : aH} {r : Int32} {h' : aH} (H : f_X11_take_36 x0 h = some (r, h')) : Ex Γ gX11_take d 36 [(0, .ref x0)] [] h (some (.int r)) h' := by
  unfold f_X11_take_36 at H
  obtain ⟨d, rfl⟩ : ∃ e, d = e + 1 := ⟨d - 1, by omega⟩
  refine x_aload_n dX11_take_36 rfl 0 rfl ?_
  refine x_iconst (v := 4) dX11_take_37 (by decide) ?_
  obtain ⟨c5, H⟩ := ko_o H
  obtain ⟨v1, h2, hc3, H⟩ := bd_o H
  refine x_callVi (As := [.int 4]) (q := (RX11, TX11, 17)) dX11_take_38 mi_X11_deny lk_X11_115 im_X11_deny se_X11_deny rfl c5 rfl rfl (Nat.le_of_ble_eq_true rfl) (t_X11_deny (by omega) hc3) ?_
  obtain ⟨c4, H⟩ := chk_o H
  obtain ⟨rfl, rfl⟩ := so_1 H
  exact x_iret dX11_take_41 rfl c4
def f_X11_take (x0 : Nat) (x1 : Int32) (x2 : Int32) (x3 : Int32) (h : aH) : Option (Int32 × aH) :=
  ko h x0 10 <|
  bd (f_X11_isPlace x0 x1 x2 h) fun v6 h7 =>
  if v6 = 0 then
    f_X11_take_36 x0 h7
  else
    ko h7 x0 10 <|
    bd (f_X11_isPointer x0 x3 h7) fun v10 h11 =>
    if v10 = 0 then
      f_X11_take_36 x0 h11
    else
      ko h11 x0 10 <|
      kr (hR h11 x0 2) fun a15 =>
      ko h11 a15 9 <|
      kr (hR h11 a15 0) fun a18 =>
      bd (f_X11_placeIndex x1 x2 h11) fun v20 h21 =>
      ka h21 a18 (.object RX6) fun n24 =>
      chk (inb v20 n24 = true) <|
      kr (hR h21 a18 v20.toNatClampNeg) fun a26 =>
      ko h21 a26 6 <|
      if (hI h21 a26 0) = 0 then
        f_X11_take_36 x0 h21
      else
        ko h21 x0 10 <|
        kr (hR h21 x0 4) fun a31 =>
        kr (hR h21 x0 2) fun a33 =>
        ko h21 a31 2 <|
        bd (f_X2_keep a31 a33 h21) fun _ h36 =>
        ko h36 x0 10 <|
        kr (hR h36 x0 2) fun a39 =>
        ko h36 a39 9 <|
        kr (hR h36 a39 0) fun a42 =>
        bd (f_X11_placeIndex x1 x2 h36) fun v44 h45 =>
        ka h45 a42 (.object RX6) fun n48 =>
        chk (inb v44 n48 = true) <|
        kr (hR h45 a42 v44.toNatClampNeg) fun a50 =>
        ko h45 x0 10 <|
        kr (hR h45 x0 2) fun a53 =>
        ko h45 a53 9 <|
        kr (hR h45 a53 0) fun a56 =>
        ka h45 a56 (.object RX6) fun n59 =>
        chk (inb x3 n59 = true) <|
        kr (hR h45 a56 x3.toNatClampNeg) fun a61 =>
        ko h45 a61 6 <|
        bd (f_X6_become a61 a50 h45) fun _ h64 =>
        ko h64 a50 6 <|
        bd (f_X6_clear a50 0 h64) fun _ h67 =>
        some (1, h67)
set_option maxRecDepth 100000 in
set_option maxHeartbeats 4000000 in
theorem t_X11_take {Γ : gS} {d : Nat} (hd : 4 ≤ d) {x0 : Nat} {x1 : Int32} {x2 : Int32} {x3 : Int32} {h : aH} {r : Int32} {h' : aH} (H : f_X11_take x0 x1 x2 x3 h = some (r, h')) : Mx Γ gX11_take d [.ref x0, .int x1, .int x2, .int x3] h (some (.int r)) h' := by
  refine Mx.of (by decide +kernel) (Nat.le_of_ble_eq_true rfl) ?_
  unfold f_X11_take at H
  show Ex Γ gX11_take d 0 [(0, .ref x0), (1, .int x1), (2, .int x2), (3, .int x3)] [] h (some (.int r)) h'
  obtain ⟨d, rfl⟩ : ∃ e, d = e + 1 := ⟨d - 1, by omega⟩
  refine x_aload_n dX11_take_0 rfl 0 rfl ?_
  refine x_iload_n dX11_take_1 rfl 1 rfl ?_
  refine x_iload_n dX11_take_2 rfl 2 rfl ?_
  obtain ⟨c73, H⟩ := ko_o H
  obtain ⟨v6, h7, hc8, H⟩ := bd_o H
  refine x_callVi (As := [.int x1, .int x2]) (q := (RX11, TX11, 17)) dX11_take_3 mi_X11_isPlace lk_X11_203 im_X11_isPlace se_X11_isPlace rfl c73 rfl rfl (Nat.le_of_ble_eq_true rfl) (t_X11_isPlace (by omega) hc8) ?_
  refine x_if_eq (tgt := 36) dX11_take_6 (by decide) (fun c9 => ?_) (fun c9 => ?_)
  · replace H := ite_p H c9
    refine Ex.sub [0] rfl ?_
    exact t_X11_take_36 hd H
  · replace H := ite_m H c9
    refine x_aload_n dX11_take_9 rfl 0 rfl ?_
    refine x_iload_n dX11_take_10 rfl 3 rfl ?_
    obtain ⟨c72, H⟩ := ko_o H
    obtain ⟨v10, h11, hc12, H⟩ := bd_o H
    refine x_callVi (As := [.int x3]) (q := (RX11, TX11, 17)) dX11_take_11 mi_X11_isPointer lk_X11_196 im_X11_isPointer se_X11_isPointer rfl c72 rfl rfl (Nat.le_of_ble_eq_true rfl) (t_X11_isPointer (by omega) hc12) ?_
    refine x_if_eq (tgt := 36) dX11_take_14 (by decide) (fun c13 => ?_) (fun c13 => ?_)
    · replace H := ite_p H c13
      refine Ex.sub [0] rfl ?_
      exact t_X11_take_36 hd H
    · replace H := ite_m H c13
      refine x_aload_n dX11_take_17 rfl 0 rfl ?_
      obtain ⟨c14, H⟩ := ko_o H
      obtain ⟨a15, c16, H⟩ := kr_o H
      refine x_getR fr_X11_20 dX11_take_18 c14 rfl c16 ?_
      obtain ⟨c17, H⟩ := ko_o H
      obtain ⟨a18, c19, H⟩ := kr_o H
      refine x_getR fr_X11_36 dX11_take_21 c17 rfl c19 ?_
      refine x_iload_n dX11_take_24 rfl 1 rfl ?_
      refine x_iload_n dX11_take_25 rfl 2 rfl ?_
      obtain ⟨v20, h21, hc22, H⟩ := bd_o H
      refine x_callSi (As := [.int x1, .int x2]) dX11_take_26 mi_X11_placeIndex lk_X11_207 sm_X11_placeIndex rfl rfl (Nat.le_of_ble_eq_true rfl) (t_X11_placeIndex (by omega) hc22) ?_
      obtain ⟨n24, c23, H⟩ := ka_o H
      obtain ⟨c25, H⟩ := chk_o H
      obtain ⟨a26, c27, H⟩ := kr_o H
      refine x_aald dX11_take_29 c23 (by decide) (inb_in.mp c25) c27 ?_
      obtain ⟨c28, H⟩ := ko_o H
      refine x_getI fr_X11_210 dX11_take_30 c28 rfl ?_
      refine x_if_ne (tgt := 42) dX11_take_33 (by decide) (fun c29 => ?_) (fun c29 => ?_)
      · replace H := ite_m H c29
        refine x_aload_n dX11_take_42 rfl 0 rfl ?_
        obtain ⟨c30, H⟩ := ko_o H
        obtain ⟨a31, c32, H⟩ := kr_o H
        refine x_getR fr_X11_30 dX11_take_43 c30 rfl c32 ?_
        refine x_aload_n dX11_take_46 rfl 0 rfl ?_
        obtain ⟨a33, c34, H⟩ := kr_o H
        refine x_getR fr_X11_20 dX11_take_47 c30 rfl c34 ?_
        obtain ⟨c71, H⟩ := ko_o H
        obtain ⟨v35, h36, hc37, H⟩ := bd_o H
        refine x_callVv (As := [.ref a33]) (q := (RX2, TX2, 3)) dX11_take_50 mi_X2_keep lk_X11_309 im_X2_keep se_X2_keep rfl c71 rfl rfl (Nat.le_of_ble_eq_true rfl) (t_X2_keep (by omega) hc37) ?_
        refine x_aload_n dX11_take_53 rfl 0 rfl ?_
        obtain ⟨c38, H⟩ := ko_o H
        obtain ⟨a39, c40, H⟩ := kr_o H
        refine x_getR fr_X11_20 dX11_take_54 c38 rfl c40 ?_
        obtain ⟨c41, H⟩ := ko_o H
        obtain ⟨a42, c43, H⟩ := kr_o H
        refine x_getR fr_X11_36 dX11_take_57 c41 rfl c43 ?_
        refine x_iload_n dX11_take_60 rfl 1 rfl ?_
        refine x_iload_n dX11_take_61 rfl 2 rfl ?_
        obtain ⟨v44, h45, hc46, H⟩ := bd_o H
        refine x_callSi (As := [.int x1, .int x2]) dX11_take_62 mi_X11_placeIndex lk_X11_207 sm_X11_placeIndex rfl rfl (Nat.le_of_ble_eq_true rfl) (t_X11_placeIndex (by omega) hc46) ?_
        obtain ⟨n48, c47, H⟩ := ka_o H
        obtain ⟨c49, H⟩ := chk_o H
        obtain ⟨a50, c51, H⟩ := kr_o H
        refine x_aald dX11_take_65 c47 (by decide) (inb_in.mp c49) c51 ?_
        refine x_astore (lv' := [(4, .ref a50), (0, .ref x0), (1, .int x1), (2, .int x2), (3, .int x3)]) dX11_take_66 (by decide) rfl rfl ?_
        refine x_aload_n dX11_take_68 rfl 1 rfl ?_
        obtain ⟨c52, H⟩ := ko_o H
        obtain ⟨a53, c54, H⟩ := kr_o H
        refine x_getR fr_X11_20 dX11_take_69 c52 rfl c54 ?_
        obtain ⟨c55, H⟩ := ko_o H
        obtain ⟨a56, c57, H⟩ := kr_o H
        refine x_getR fr_X11_36 dX11_take_72 c55 rfl c57 ?_
        refine x_iload_n dX11_take_75 rfl 4 rfl ?_
        obtain ⟨n59, c58, H⟩ := ka_o H
        obtain ⟨c60, H⟩ := chk_o H
        obtain ⟨a61, c62, H⟩ := kr_o H
        refine x_aald dX11_take_76 c58 (by decide) (inb_in.mp c60) c62 ?_
        refine x_aload dX11_take_77 0 rfl ?_
        obtain ⟨c70, H⟩ := ko_o H
        obtain ⟨v63, h64, hc65, H⟩ := bd_o H
        refine x_callVv (As := [.ref a50]) (q := (RX6, TX6, 8)) dX11_take_79 mi_X6_become lk_X11_347 im_X6_become se_X6_become rfl c70 rfl rfl (Nat.le_of_ble_eq_true rfl) (t_X6_become (by omega) hc65) ?_
        refine x_aload dX11_take_82 0 rfl ?_
        refine x_iconst (v := 0) dX11_take_84 (by decide) ?_
        obtain ⟨c69, H⟩ := ko_o H
        obtain ⟨v66, h67, hc68, H⟩ := bd_o H
        refine x_callVv (As := [.int 0]) (q := (RX6, TX6, 8)) dX11_take_85 mi_X6_clear lk_X11_327 im_X6_clear se_X6_clear rfl c69 rfl rfl (Nat.le_of_ble_eq_true rfl) (t_X6_clear (by omega) hc68) ?_
        refine x_iconst (v := 1) dX11_take_88 (by decide) ?_
        obtain ⟨rfl, rfl⟩ := so_1 H
        exact x_iret dX11_take_89 rfl (by decide)
      · replace H := ite_p H c29
        refine Ex.sub [0] rfl ?_
        exact t_X11_take_36 hd H
def f_X11_draw_39 (s0 : Int32) (h : aH) : Option (Int32 × aH) :=
  some (s0, h)
set_option maxRecDepth 100000 in
set_option maxHeartbeats 4000000 in
theorem t_X11_draw_39 {Γ : gS} {d : Nat} (hd : 0 ≤ d) {s0 : Int32} {h : aH} {r : Int32} {h' : aH} (H : f_X11_draw_39 s0 h = some (r, h')) : Ex Γ gX11_draw d 39 [] [.int s0] h (some (.int r)) h' := by
  unfold f_X11_draw_39 at H
  obtain ⟨rfl, rfl⟩ := so_1 H
  exact x_iret dX11_draw_39 rfl rfl
def f_X11_draw (x0 : Nat) (x1 : Int32) (h : aH) : Option (Int32 × aH) :=
  ko h x0 10 <|
  if x1 ≤ 0 then
    f_X11_draw_39 0 (sL h x0 16 (((1103515245 * (hL h x0 16)) + 12345) &&& 2147483647))
  else
    nm (hL (sL h x0 16 (((1103515245 * (hL h x0 16)) + 12345) &&& 2147483647)) x0 16) fun (v3 : Int64) =>
    chk (¬ x1.toInt64 = 0) <|
    f_X11_draw_39 (((v3 >>> ((6 : Int32).toInt64 &&& 63)) - (v3 >>> ((6 : Int32).toInt64 &&& 63)) / x1.toInt64 * x1.toInt64 : Int64).toInt32) (sL h x0 16 (((1103515245 * (hL h x0 16)) + 12345) &&& 2147483647))
set_option maxRecDepth 100000 in
set_option maxHeartbeats 4000000 in
theorem t_X11_draw {Γ : gS} {d : Nat} (hd : 0 ≤ d) {x0 : Nat} {x1 : Int32} {h : aH} {r : Int32} {h' : aH} (H : f_X11_draw x0 x1 h = some (r, h')) : Mx Γ gX11_draw d [.ref x0, .int x1] h (some (.int r)) h' := by
  refine Mx.of (by decide +kernel) (Nat.le_of_ble_eq_true rfl) ?_
  unfold f_X11_draw at H
  show Ex Γ gX11_draw d 0 [(0, .ref x0), (1, .int x1)] [] h (some (.int r)) h'
  refine x_aload_n dX11_draw_0 rfl 0 rfl ?_
  refine x_ldc2 kc_X11_385 dX11_draw_1 ?_
  refine x_aload_n dX11_draw_4 rfl 0 rfl ?_
  obtain ⟨c1, H⟩ := ko_o H
  refine x_getL fr_X11_103 dX11_draw_5 c1 rfl ?_
  refine x_lmul dX11_draw_8 ?_
  refine x_ldc2 kc_X11_387 dX11_draw_9 ?_
  refine x_ladd dX11_draw_12 ?_
  refine x_ldc2 kc_X11_389 dX11_draw_13 ?_
  refine x_land dX11_draw_16 ?_
  refine x_putL fl_X11_103 dX11_draw_17 c1 (fun e => by cases e) rfl ?_
  refine x_iload_n dX11_draw_20 rfl 1 rfl ?_
  refine x_if_le (tgt := 38) dX11_draw_21 (by decide) (fun c2 => ?_) (fun c2 => ?_)
  · replace H := ite_p H c2
    refine x_iconst (v := 0) dX11_draw_38 (by decide) ?_
    refine Ex.sub [] rfl ?_
    exact t_X11_draw_39 hd H
  · replace H := ite_m H c2
    refine x_aload_n dX11_draw_24 rfl 0 rfl ?_
    obtain ⟨v3, ev3, H⟩ := nm_o H
    refine x_getLe fr_X11_103 dX11_draw_25 c1 rfl ev3 ?_
    refine x_bipush (v := 6) dX11_draw_28 (by decide) ?_
    refine x_lshr dX11_draw_30 ?_
    refine x_iload_n dX11_draw_31 rfl 1 rfl ?_
    refine x_i2l dX11_draw_32 ?_
    obtain ⟨c4, H⟩ := chk_o H
    refine x_lrem dX11_draw_33 c4 ?_
    refine x_l2i dX11_draw_34 ?_
    refine x_goto (tgt := 39) dX11_draw_35 (by decide) ?_
    refine Ex.sub [] rfl ?_
    exact t_X11_draw_39 hd H
def f_X11_actBySeed_62 (s0 : Int32) (h : aH) : Option (Int32 × aH) :=
  chk (narrow .boolean (.int s0) = .int s0) <|
  some (s0, h)
set_option maxRecDepth 100000 in
set_option maxHeartbeats 4000000 in
theorem t_X11_actBySeed_62 {Γ : gS} {d : Nat} (hd : 6 ≤ d) {s0 : Int32} {h : aH} {r : Int32} {h' : aH} (H : f_X11_actBySeed_62 s0 h = some (r, h')) : Ex Γ gX11_actBySeed d 62 [] [.int s0] h (some (.int r)) h' := by
  unfold f_X11_actBySeed_62 at H
  obtain ⟨d, rfl⟩ : ∃ e, d = e + 1 := ⟨d - 1, by omega⟩
  obtain ⟨c1, H⟩ := chk_o H
  obtain ⟨rfl, rfl⟩ := so_1 H
  exact x_iret dX11_actBySeed_62 rfl c1
def f_X11_actBySeed_52 (x3 : Int32) (h : aH) : Option (Int32 × aH) :=
  if x3 = (-1) then
    f_X11_actBySeed_62 0 h
  else
    f_X11_actBySeed_62 1 h
set_option maxRecDepth 100000 in
set_option maxHeartbeats 4000000 in
theorem t_X11_actBySeed_52 {Γ : gS} {d : Nat} (hd : 6 ≤ d) {x3 : Int32} {h : aH} {r : Int32} {h' : aH} (H : f_X11_actBySeed_52 x3 h = some (r, h')) : Ex Γ gX11_actBySeed d 52 [(3, .int x3)] [] h (some (.int r)) h' := by
  unfold f_X11_actBySeed_52 at H
  obtain ⟨d, rfl⟩ : ∃ e, d = e + 1 := ⟨d - 1, by omega⟩
  refine x_iload_n dX11_actBySeed_52 rfl 0 rfl ?_
  refine x_iconst (v := (-1)) dX11_actBySeed_53 (by decide) ?_
  refine x_icmp_eq (tgt := 61) dX11_actBySeed_54 (by decide) (fun c2 => ?_) (fun c2 => ?_)
  · replace H := ite_p H c2
    refine x_iconst (v := 0) dX11_actBySeed_61 (by decide) ?_
    refine Ex.sub [] rfl ?_
    exact t_X11_actBySeed_62 hd H
  · replace H := ite_m H c2
    refine x_iconst (v := 1) dX11_actBySeed_57 (by decide) ?_
    refine x_goto (tgt := 62) dX11_actBySeed_58 (by decide) ?_
    refine Ex.sub [] rfl ?_
    exact t_X11_actBySeed_62 hd H
def f_X11_actBySeed_97 (x4 : Int32) (h : aH) : Option (Int32 × aH) :=
  chk (narrow .boolean (.int x4) = .int x4) <|
  some (x4, h)
set_option maxRecDepth 100000 in
set_option maxHeartbeats 4000000 in
theorem t_X11_actBySeed_97 {Γ : gS} {d : Nat} (hd : 6 ≤ d) {x4 : Int32} {h : aH} {r : Int32} {h' : aH} (H : f_X11_actBySeed_97 x4 h = some (r, h')) : Ex Γ gX11_actBySeed d 97 [(4, .int x4)] [] h (some (.int r)) h' := by
  unfold f_X11_actBySeed_97 at H
  obtain ⟨d, rfl⟩ : ∃ e, d = e + 1 := ⟨d - 1, by omega⟩
  refine x_iload dX11_actBySeed_97 0 rfl ?_
  obtain ⟨c3, H⟩ := chk_o H
  obtain ⟨rfl, rfl⟩ := so_1 H
  exact x_iret dX11_actBySeed_99 rfl c3
def f_X11_actBySeed_14 (x0 : Nat) (s0 : Int32) (h : aH) : Option (Int32 × aH) :=
  ko h x0 10 <|
  bd (f_X11_draw x0 15 h) fun v4 h5 =>
  if s0 = 0 then
    ko h5 x0 10 <|
    bd (f_X11_draw x0 16 h5) fun v8 h9 =>
    nm (v8 + 1) fun (v11 : Int32) =>
    ko h9 x0 10 <|
    kr (hR h9 x0 6) fun a13 =>
    kr (hR h9 x0 9) fun a15 =>
    ko h9 a13 1 <|
    bd (f_X1_search a13 a15 v11 h9) fun v17 h18 =>
    if v17 = 0 then
      f_X11_actBySeed_97 v17 h18
    else
      ko h18 x0 10 <|
      bd (f_X11_allocate x0 v4 v11 h18) fun _ h22 =>
      f_X11_actBySeed_97 v17 h22
  else
    ko h5 x0 10 <|
    bd (f_X11_objectOf x0 v4 h5) fun v27 h28 =>
    if v27 = (-1) then
      f_X11_actBySeed_52 v27 h28
    else
      ko h28 x0 10 <|
      kr (hR h28 x0 2) fun a32 =>
      kr (hR h28 x0 9) fun a34 =>
      ko h28 a34 4 <|
      ko h28 a32 9 <|
      bd (f_X9_removeObject a32 v27 (hI h28 a34 2) h28) fun _ h38 =>
      f_X11_actBySeed_52 v27 h38
set_option maxRecDepth 100000 in
set_option maxHeartbeats 4000000 in
theorem t_X11_actBySeed_14 {Γ : gS} {d : Nat} (hd : 6 ≤ d) {x0 : Nat} {s0 : Int32} {h : aH} {r : Int32} {h' : aH} (H : f_X11_actBySeed_14 x0 s0 h = some (r, h')) : Ex Γ gX11_actBySeed d 14 [(0, .ref x0)] [.int s0] h (some (.int r)) h' := by
  unfold f_X11_actBySeed_14 at H
  obtain ⟨d, rfl⟩ : ∃ e, d = e + 1 := ⟨d - 1, by omega⟩
  refine x_istore_n (lv' := [(1, .int s0), (0, .ref x0)]) dX11_actBySeed_14 rfl (by decide) rfl rfl ?_
  refine x_aload_n dX11_actBySeed_15 rfl 1 rfl ?_
  refine x_bipush (v := 15) dX11_actBySeed_16 (by decide) ?_
  obtain ⟨c42, H⟩ := ko_o H
  obtain ⟨v4, h5, hc6, H⟩ := bd_o H
  refine x_callVi (As := [.int 15]) (q := (RX11, TX11, 17)) dX11_actBySeed_18 mi_X11_draw lk_X11_382 im_X11_draw se_X11_draw rfl c42 rfl rfl (Nat.le_of_ble_eq_true rfl) (t_X11_draw (by omega) hc6) ?_
  refine x_istore_n (lv' := [(2, .int v4), (1, .int s0), (0, .ref x0)]) dX11_actBySeed_21 rfl (by decide) rfl rfl ?_
  refine x_iload_n dX11_actBySeed_22 rfl 1 rfl ?_
  refine x_if_eq (tgt := 63) dX11_actBySeed_23 (by decide) (fun c7 => ?_) (fun c7 => ?_)
  · replace H := ite_p H c7
    refine x_aload_n dX11_actBySeed_63 rfl 2 rfl ?_
    refine x_bipush (v := 16) dX11_actBySeed_64 (by decide) ?_
    obtain ⟨c26, H⟩ := ko_o H
    obtain ⟨v8, h9, hc10, H⟩ := bd_o H
    refine x_callVi (As := [.int 16]) (q := (RX11, TX11, 17)) dX11_actBySeed_66 mi_X11_draw lk_X11_382 im_X11_draw se_X11_draw rfl c26 rfl rfl (Nat.le_of_ble_eq_true rfl) (t_X11_draw (by omega) hc10) ?_
    refine x_iconst (v := 1) dX11_actBySeed_69 (by decide) ?_
    refine x_iadd dX11_actBySeed_70 ?_
    obtain ⟨v11, ev11, H⟩ := nm_o H
    refine x_istore_n (lv' := [(3, .int v11), (2, .int v4), (1, .int s0), (0, .ref x0)]) dX11_actBySeed_71 rfl (by decide) ev11 rfl ?_
    refine x_aload_n dX11_actBySeed_72 rfl 3 rfl ?_
    obtain ⟨c12, H⟩ := ko_o H
    obtain ⟨a13, c14, H⟩ := kr_o H
    refine x_getR fr_X11_52 dX11_actBySeed_73 c12 rfl c14 ?_
    refine x_aload_n dX11_actBySeed_76 rfl 3 rfl ?_
    obtain ⟨a15, c16, H⟩ := kr_o H
    refine x_getR fr_X11_73 dX11_actBySeed_77 c12 rfl c16 ?_
    refine x_iload_n dX11_actBySeed_80 rfl 0 rfl ?_
    obtain ⟨c25, H⟩ := ko_o H
    obtain ⟨v17, h18, hc19, H⟩ := bd_o H
    refine x_callVi (As := [.ref a15, .int v11]) (q := (RX1, TX1, 5)) dX11_actBySeed_81 mi_X1_search lk_X11_276 im_X1_search se_X1_search rfl c25 rfl rfl (Nat.le_of_ble_eq_true rfl) (t_X1_search (by omega) hc19) ?_
    refine x_istore (lv' := [(4, .int v17), (3, .int v11), (2, .int v4), (1, .int s0), (0, .ref x0)]) dX11_actBySeed_84 (by decide) rfl rfl ?_
    refine x_iload dX11_actBySeed_86 0 rfl ?_
    refine x_if_eq (tgt := 97) dX11_actBySeed_88 (by decide) (fun c20 => ?_) (fun c20 => ?_)
    · replace H := ite_p H c20
      refine Ex.sub [0] rfl ?_
      exact t_X11_actBySeed_97 hd H
    · replace H := ite_m H c20
      refine x_aload_n dX11_actBySeed_91 rfl 4 rfl ?_
      refine x_iload_n dX11_actBySeed_92 rfl 2 rfl ?_
      refine x_iload_n dX11_actBySeed_93 rfl 1 rfl ?_
      obtain ⟨c24, H⟩ := ko_o H
      obtain ⟨v21, h22, hc23, H⟩ := bd_o H
      refine x_callVv (As := [.int v4, .int v11]) (q := (RX11, TX11, 17)) dX11_actBySeed_94 mi_X11_allocate lk_X11_313 im_X11_allocate se_X11_allocate rfl c24 rfl rfl (Nat.le_of_ble_eq_true rfl) (t_X11_allocate (by omega) hc23) ?_
      refine Ex.sub [0] rfl ?_
      exact t_X11_actBySeed_97 hd H
  · replace H := ite_m H c7
    refine x_aload_n dX11_actBySeed_26 rfl 2 rfl ?_
    refine x_iload_n dX11_actBySeed_27 rfl 0 rfl ?_
    obtain ⟨c41, H⟩ := ko_o H
    obtain ⟨v27, h28, hc29, H⟩ := bd_o H
    refine x_callVi (As := [.int v4]) (q := (RX11, TX11, 17)) dX11_actBySeed_28 mi_X11_objectOf lk_X11_333 im_X11_objectOf se_X11_objectOf rfl c41 rfl rfl (Nat.le_of_ble_eq_true rfl) (t_X11_objectOf (by omega) hc29) ?_
    refine x_istore_n (lv' := [(3, .int v27), (2, .int v4), (1, .int s0), (0, .ref x0)]) dX11_actBySeed_31 rfl (by decide) rfl rfl ?_
    refine x_iload_n dX11_actBySeed_32 rfl 0 rfl ?_
    refine x_iconst (v := (-1)) dX11_actBySeed_33 (by decide) ?_
    refine x_icmp_eq (tgt := 52) dX11_actBySeed_34 (by decide) (fun c30 => ?_) (fun c30 => ?_)
    · replace H := ite_p H c30
      refine Ex.sub [0] rfl ?_
      exact t_X11_actBySeed_52 hd H
    · replace H := ite_m H c30
      refine x_aload_n dX11_actBySeed_37 rfl 3 rfl ?_
      obtain ⟨c31, H⟩ := ko_o H
      obtain ⟨a32, c33, H⟩ := kr_o H
      refine x_getR fr_X11_20 dX11_actBySeed_38 c31 rfl c33 ?_
      refine x_iload_n dX11_actBySeed_41 rfl 0 rfl ?_
      refine x_aload_n dX11_actBySeed_42 rfl 3 rfl ?_
      obtain ⟨a34, c35, H⟩ := kr_o H
      refine x_getR fr_X11_73 dX11_actBySeed_43 c31 rfl c35 ?_
      obtain ⟨c36, H⟩ := ko_o H
      refine x_getI fr_X11_151 dX11_actBySeed_46 c36 rfl ?_
      obtain ⟨c40, H⟩ := ko_o H
      obtain ⟨v37, h38, hc39, H⟩ := bd_o H
      refine x_callVv (As := [.int v27, .int (hI h28 a34 2)]) (q := (RX9, TX9, 8)) dX11_actBySeed_49 mi_X9_removeObject lk_X11_336 im_X9_removeObject se_X9_removeObject rfl c40 rfl rfl (Nat.le_of_ble_eq_true rfl) (t_X9_removeObject (by omega) hc39) ?_
      refine Ex.sub [0] rfl ?_
      exact t_X11_actBySeed_52 hd H
def f_X11_actBySeed (x0 : Nat) (h : aH) : Option (Int32 × aH) :=
  ko h x0 10 <|
  bd (f_X11_draw x0 3 h) fun v43 h44 =>
  if v43 = 2 then
    f_X11_actBySeed_14 x0 1 h44
  else
    f_X11_actBySeed_14 x0 0 h44
set_option maxRecDepth 100000 in
set_option maxHeartbeats 4000000 in
theorem t_X11_actBySeed {Γ : gS} {d : Nat} (hd : 6 ≤ d) {x0 : Nat} {h : aH} {r : Int32} {h' : aH} (H : f_X11_actBySeed x0 h = some (r, h')) : Mx Γ gX11_actBySeed d [.ref x0] h (some (.int r)) h' := by
  refine Mx.of (by decide +kernel) (Nat.le_of_ble_eq_true rfl) ?_
  unfold f_X11_actBySeed at H
  show Ex Γ gX11_actBySeed d 0 [(0, .ref x0)] [] h (some (.int r)) h'
  obtain ⟨d, rfl⟩ : ∃ e, d = e + 1 := ⟨d - 1, by omega⟩
  refine x_aload_n dX11_actBySeed_0 rfl 0 rfl ?_
  refine x_iconst (v := 3) dX11_actBySeed_1 (by decide) ?_
  obtain ⟨c47, H⟩ := ko_o H
  obtain ⟨v43, h44, hc45, H⟩ := bd_o H
  refine x_callVi (As := [.int 3]) (q := (RX11, TX11, 17)) dX11_actBySeed_2 mi_X11_draw lk_X11_382 im_X11_draw se_X11_draw rfl c47 rfl rfl (Nat.le_of_ble_eq_true rfl) (t_X11_draw (by omega) hc45) ?_
  refine x_iconst (v := 2) dX11_actBySeed_5 (by decide) ?_
  refine x_icmp_ne (tgt := 13) dX11_actBySeed_6 (by decide) (fun c46 => ?_) (fun c46 => ?_)
  · replace H := ite_m H c46
    refine x_iconst (v := 0) dX11_actBySeed_13 (by decide) ?_
    exact t_X11_actBySeed_14 hd H
  · replace H := ite_p H c46
    refine x_iconst (v := 1) dX11_actBySeed_9 (by decide) ?_
    refine x_goto (tgt := 14) dX11_actBySeed_10 (by decide) ?_
    exact t_X11_actBySeed_14 hd H
def f_X11_chance_18 (x0 : Nat) (h : aH) : Option (Int32 × aH) :=
  ko h x0 10 <|
  bd (f_X11_refuse x0 2 h) fun v1 h2 =>
  some (v1, h2)
set_option maxRecDepth 100000 in
set_option maxHeartbeats 4000000 in
theorem t_X11_chance_18 {Γ : gS} {d : Nat} (hd : 7 ≤ d) {x0 : Nat} {h : aH} {r : Int32} {h' : aH} (H : f_X11_chance_18 x0 h = some (r, h')) : Ex Γ gX11_chance d 18 [(0, .ref x0)] [] h (some (.int r)) h' := by
  unfold f_X11_chance_18 at H
  obtain ⟨d, rfl⟩ : ∃ e, d = e + 1 := ⟨d - 1, by omega⟩
  refine x_aload_n dX11_chance_18 rfl 0 rfl ?_
  refine x_iconst (v := 2) dX11_chance_19 (by decide) ?_
  obtain ⟨c4, H⟩ := ko_o H
  obtain ⟨v1, h2, hc3, H⟩ := bd_o H
  refine x_callVi (As := [.int 2]) (q := (RX11, TX11, 17)) dX11_chance_20 mi_X11_refuse lk_X11_107 im_X11_refuse se_X11_refuse rfl c4 rfl rfl (Nat.le_of_ble_eq_true rfl) (t_X11_refuse (by omega) hc3) ?_
  obtain ⟨rfl, rfl⟩ := so_1 H
  exact x_iret dX11_chance_23 rfl rfl
def f_X11_chance_54 (k39 : Nat → Int32 → Int32 → Int32 → aH → Option (Int32 × aH)) (x0 : Nat) (x1 : Int32) (x2 : Int32) (x3 : Int32) (h : aH) : Option (Int32 × aH) :=
  nm (x3 + 1) fun (v5 : Int32) =>
  k39 x0 x1 x2 v5 h
set_option maxRecDepth 100000 in
set_option maxHeartbeats 4000000 in
theorem t_X11_chance_54 {Γ : gS} {d : Nat} (hd : 7 ≤ d) {k39 : Nat → Int32 → Int32 → Int32 → aH → Option (Int32 × aH)} (hk39 : ∀ {x0 : Nat} {x1 : Int32} {x2 : Int32} {x3 : Int32} {h : aH} {r : Int32} {h' : aH}, k39 x0 x1 x2 x3 h = some (r, h') → Ex Γ gX11_chance d 39 [(0, .ref x0), (1, .int x1), (2, .int x2), (3, .int x3)] [] h (some (.int r)) h') {x0 : Nat} {x1 : Int32} {x2 : Int32} {x3 : Int32} {h : aH} {r : Int32} {h' : aH} (H : f_X11_chance_54 k39 x0 x1 x2 x3 h = some (r, h')) : Ex Γ gX11_chance d 54 [(0, .ref x0), (1, .int x1), (2, .int x2), (3, .int x3)] [] h (some (.int r)) h' := by
  unfold f_X11_chance_54 at H
  obtain ⟨d, rfl⟩ : ∃ e, d = e + 1 := ⟨d - 1, by omega⟩
  obtain ⟨v5, ev5, H⟩ := nm_o H
  refine x_iinc (v := v5) (lv' := [(3, .int v5), (0, .ref x0), (1, .int x1), (2, .int x2)]) dX11_chance_54 3 rfl (by decide) ev5 rfl ?_
  refine x_goto (tgt := 39) dX11_chance_57 (by decide) ?_
  refine Ex.sub [1, 2, 3, 0] rfl ?_
  exact hk39 H
def b_X11_chance_39 (k39 : Nat → Int32 → Int32 → Int32 → aH → Option (Int32 × aH)) (x0 : Nat) (x1 : Int32) (x2 : Int32) (x3 : Int32) (h : aH) : Option (Int32 × aH) :=
  if x1 ≤ x3 then
    some (x2, h)
  else
    ko h x0 10 <|
    bd (f_X11_actBySeed x0 h) fun v7 h8 =>
    if v7 = 0 then
      f_X11_chance_54 k39 x0 x1 x2 x3 h8
    else
      nm (x2 + 1) fun (v11 : Int32) =>
      f_X11_chance_54 k39 x0 x1 v11 x3 h8
set_option maxRecDepth 100000 in
set_option maxHeartbeats 4000000 in
theorem tb_X11_chance_39 {Γ : gS} {d : Nat} (hd : 7 ≤ d) {k39 : Nat → Int32 → Int32 → Int32 → aH → Option (Int32 × aH)} (hk39 : ∀ {x0 : Nat} {x1 : Int32} {x2 : Int32} {x3 : Int32} {h : aH} {r : Int32} {h' : aH}, k39 x0 x1 x2 x3 h = some (r, h') → Ex Γ gX11_chance d 39 [(0, .ref x0), (1, .int x1), (2, .int x2), (3, .int x3)] [] h (some (.int r)) h') {x0 : Nat} {x1 : Int32} {x2 : Int32} {x3 : Int32} {h : aH} {r : Int32} {h' : aH} (H : b_X11_chance_39 k39 x0 x1 x2 x3 h = some (r, h')) : Ex Γ gX11_chance d 39 [(0, .ref x0), (1, .int x1), (2, .int x2), (3, .int x3)] [] h (some (.int r)) h' := by
  unfold b_X11_chance_39 at H
  obtain ⟨d, rfl⟩ : ∃ e, d = e + 1 := ⟨d - 1, by omega⟩
  refine x_iload_n dX11_chance_39 rfl 3 rfl ?_
  refine x_iload_n dX11_chance_40 rfl 1 rfl ?_
  refine x_icmp_ge (tgt := 60) dX11_chance_41 (by decide) (fun c6 => ?_) (fun c6 => ?_)
  · replace H := ite_p H c6
    refine x_iload_n dX11_chance_60 rfl 2 rfl ?_
    obtain ⟨rfl, rfl⟩ := so_1 H
    exact x_iret dX11_chance_61 rfl rfl
  · replace H := ite_m H c6
    refine x_aload_n dX11_chance_44 rfl 0 rfl ?_
    obtain ⟨c12, H⟩ := ko_o H
    obtain ⟨v7, h8, hc9, H⟩ := bd_o H
    refine x_callVi (As := []) (q := (RX11, TX11, 17)) dX11_chance_45 mi_X11_actBySeed lk_X11_379 im_X11_actBySeed se_X11_actBySeed rfl c12 rfl rfl (Nat.le_of_ble_eq_true rfl) (t_X11_actBySeed (by omega) hc9) ?_
    refine x_if_eq (tgt := 54) dX11_chance_48 (by decide) (fun c10 => ?_) (fun c10 => ?_)
    · replace H := ite_p H c10
      exact t_X11_chance_54 hd hk39 H
    · replace H := ite_m H c10
      obtain ⟨v11, ev11, H⟩ := nm_o H
      refine x_iinc (v := v11) (lv' := [(2, .int v11), (0, .ref x0), (1, .int x1), (3, .int x3)]) dX11_chance_51 2 rfl (by decide) ev11 rfl ?_
      refine Ex.sub [1, 2, 0, 3] rfl ?_
      exact t_X11_chance_54 hd hk39 H
def f_X11_chance_39 : Nat → Nat → Int32 → Int32 → Int32 → aH → Option (Int32 × aH)
  | 0 => fun _ _ _ _ _ => none
  | n + 1 => b_X11_chance_39 (f_X11_chance_39 n)
set_option maxRecDepth 100000 in
set_option maxHeartbeats 4000000 in
theorem t_X11_chance_39 {Γ : gS} {d : Nat} (hd : 7 ≤ d) (n : Nat) : ∀ {x0 : Nat} {x1 : Int32} {x2 : Int32} {x3 : Int32} {h : aH} {r : Int32} {h' : aH}, f_X11_chance_39 n x0 x1 x2 x3 h = some (r, h') → Ex Γ gX11_chance d 39 [(0, .ref x0), (1, .int x1), (2, .int x2), (3, .int x3)] [] h (some (.int r)) h' := by
  induction n with
  | zero => intro x0 x1 x2 x3 h r h' H; cases H
  | succ n ih => intro x0 x1 x2 x3 h r h' H; exact tb_X11_chance_39 hd ih H
def f_X11_chance (x0 : Nat) (x1 : Int32) (h : aH) : Option (Int32 × aH) :=
  ko h x0 10 <|
  if (hI h x0 12) = 0 then
    f_X11_chance_18 x0 h
  else
    if x1 < 1 then
      f_X11_chance_18 x0 h
    else
      if x1 ≤ 40 then
        kr (hR h x0 4) fun a17 =>
        kr (hR h x0 2) fun a19 =>
        ko h a17 2 <|
        bd (f_X2_keep a17 a19 h) fun _ h22 =>
        f_X11_chance_39 FU x0 x1 0 0 h22
      else
        f_X11_chance_18 x0 h
set_option maxRecDepth 100000 in
set_option maxHeartbeats 4000000 in
theorem t_X11_chance {Γ : gS} {d : Nat} (hd : 7 ≤ d) {x0 : Nat} {x1 : Int32} {h : aH} {r : Int32} {h' : aH} (H : f_X11_chance x0 x1 h = some (r, h')) : Mx Γ gX11_chance d [.ref x0, .int x1] h (some (.int r)) h' := by
  refine Mx.of (by decide +kernel) (Nat.le_of_ble_eq_true rfl) ?_
  unfold f_X11_chance at H
  show Ex Γ gX11_chance d 0 [(0, .ref x0), (1, .int x1)] [] h (some (.int r)) h'
  obtain ⟨d, rfl⟩ : ∃ e, d = e + 1 := ⟨d - 1, by omega⟩
  refine x_aload_n dX11_chance_0 rfl 0 rfl ?_
  obtain ⟨c13, H⟩ := ko_o H
  refine x_getI fr_X11_89 dX11_chance_1 c13 rfl ?_
  refine x_if_eq (tgt := 18) dX11_chance_4 (by decide) (fun c14 => ?_) (fun c14 => ?_)
  · replace H := ite_p H c14
    refine Ex.sub [0] rfl ?_
    exact t_X11_chance_18 hd H
  · replace H := ite_m H c14
    refine x_iload_n dX11_chance_7 rfl 1 rfl ?_
    refine x_iconst (v := 1) dX11_chance_8 (by decide) ?_
    refine x_icmp_lt (tgt := 18) dX11_chance_9 (by decide) (fun c15 => ?_) (fun c15 => ?_)
    · replace H := ite_p H c15
      refine Ex.sub [0] rfl ?_
      exact t_X11_chance_18 hd H
    · replace H := ite_m H c15
      refine x_iload_n dX11_chance_12 rfl 1 rfl ?_
      refine x_bipush (v := 40) dX11_chance_13 (by decide) ?_
      refine x_icmp_le (tgt := 24) dX11_chance_15 (by decide) (fun c16 => ?_) (fun c16 => ?_)
      · replace H := ite_p H c16
        refine x_aload_n dX11_chance_24 rfl 0 rfl ?_
        obtain ⟨a17, c18, H⟩ := kr_o H
        refine x_getR fr_X11_30 dX11_chance_25 c13 rfl c18 ?_
        refine x_aload_n dX11_chance_28 rfl 0 rfl ?_
        obtain ⟨a19, c20, H⟩ := kr_o H
        refine x_getR fr_X11_20 dX11_chance_29 c13 rfl c20 ?_
        obtain ⟨c24, H⟩ := ko_o H
        obtain ⟨v21, h22, hc23, H⟩ := bd_o H
        refine x_callVv (As := [.ref a19]) (q := (RX2, TX2, 3)) dX11_chance_32 mi_X2_keep lk_X11_309 im_X2_keep se_X2_keep rfl c24 rfl rfl (Nat.le_of_ble_eq_true rfl) (t_X2_keep (by omega) hc23) ?_
        refine x_iconst (v := 0) dX11_chance_35 (by decide) ?_
        refine x_istore_n (lv' := [(2, .int 0), (0, .ref x0), (1, .int x1)]) dX11_chance_36 rfl (by decide) rfl rfl ?_
        refine x_iconst (v := 0) dX11_chance_37 (by decide) ?_
        refine x_istore_n (lv' := [(3, .int 0), (2, .int 0), (0, .ref x0), (1, .int x1)]) dX11_chance_38 rfl (by decide) rfl rfl ?_
        refine Ex.sub [2, 3, 1, 0] rfl ?_
        exact t_X11_chance_39 hd FU H
      · replace H := ite_m H c16
        refine Ex.sub [0] rfl ?_
        exact t_X11_chance_18 hd H
def f_X11_undo_28 (s0 : Int32) (h : aH) : Option (Int32 × aH) :=
  chk (narrow .boolean (.int s0) = .int s0) <|
  some (s0, h)
set_option maxRecDepth 100000 in
set_option maxHeartbeats 4000000 in
theorem t_X11_undo_28 {Γ : gS} {d : Nat} (hd : 3 ≤ d) {s0 : Int32} {h : aH} {r : Int32} {h' : aH} (H : f_X11_undo_28 s0 h = some (r, h')) : Ex Γ gX11_undo d 28 [] [.int s0] h (some (.int r)) h' := by
  unfold f_X11_undo_28 at H
  obtain ⟨d, rfl⟩ : ∃ e, d = e + 1 := ⟨d - 1, by omega⟩
  obtain ⟨c1, H⟩ := chk_o H
  obtain ⟨rfl, rfl⟩ := so_1 H
  exact x_iret dX11_undo_28 rfl c1
def f_X11_undo_23 (h : aH) : Option (Int32 × aH) :=
  f_X11_undo_28 1 h
set_option maxRecDepth 100000 in
set_option maxHeartbeats 4000000 in
theorem t_X11_undo_23 {Γ : gS} {d : Nat} (hd : 3 ≤ d) {h : aH} {r : Int32} {h' : aH} (H : f_X11_undo_23 h = some (r, h')) : Ex Γ gX11_undo d 23 [] [] h (some (.int r)) h' := by
  unfold f_X11_undo_23 at H
  obtain ⟨d, rfl⟩ : ∃ e, d = e + 1 := ⟨d - 1, by omega⟩
  refine x_iconst (v := 1) dX11_undo_23 (by decide) ?_
  refine x_goto (tgt := 28) dX11_undo_24 (by decide) ?_
  exact t_X11_undo_28 hd H
def f_X11_undo (x0 : Nat) (h : aH) : Option (Int32 × aH) :=
  ko h x0 10 <|
  kr (hR h x0 4) fun a3 =>
  kr (hR h x0 2) fun a5 =>
  ko h a3 2 <|
  bd (f_X2_goBack a3 a5 h) fun v7 h8 =>
  if v7 = 0 then
    ko h8 x0 10 <|
    bd (f_X11_deny x0 6 h8) fun v11 h12 =>
    if v11 = 0 then
      f_X11_undo_28 0 h12
    else
      f_X11_undo_23 h12
  else
    f_X11_undo_23 h8
set_option maxRecDepth 100000 in
set_option maxHeartbeats 4000000 in
theorem t_X11_undo {Γ : gS} {d : Nat} (hd : 3 ≤ d) {x0 : Nat} {h : aH} {r : Int32} {h' : aH} (H : f_X11_undo x0 h = some (r, h')) : Mx Γ gX11_undo d [.ref x0] h (some (.int r)) h' := by
  refine Mx.of (by decide +kernel) (Nat.le_of_ble_eq_true rfl) ?_
  unfold f_X11_undo at H
  show Ex Γ gX11_undo d 0 [(0, .ref x0)] [] h (some (.int r)) h'
  obtain ⟨d, rfl⟩ : ∃ e, d = e + 1 := ⟨d - 1, by omega⟩
  refine x_aload_n dX11_undo_0 rfl 0 rfl ?_
  obtain ⟨c2, H⟩ := ko_o H
  obtain ⟨a3, c4, H⟩ := kr_o H
  refine x_getR fr_X11_30 dX11_undo_1 c2 rfl c4 ?_
  refine x_aload_n dX11_undo_4 rfl 0 rfl ?_
  obtain ⟨a5, c6, H⟩ := kr_o H
  refine x_getR fr_X11_20 dX11_undo_5 c2 rfl c6 ?_
  obtain ⟨c16, H⟩ := ko_o H
  obtain ⟨v7, h8, hc9, H⟩ := bd_o H
  refine x_callVi (As := [.ref a5]) (q := (RX2, TX2, 3)) dX11_undo_8 mi_X2_goBack lk_X11_391 im_X2_goBack se_X2_goBack rfl c16 rfl rfl (Nat.le_of_ble_eq_true rfl) (t_X2_goBack (by omega) hc9) ?_
  refine x_if_ne (tgt := 23) dX11_undo_11 (by decide) (fun c10 => ?_) (fun c10 => ?_)
  · replace H := ite_m H c10
    refine Ex.sub [] rfl ?_
    exact t_X11_undo_23 hd H
  · replace H := ite_p H c10
    refine x_aload_n dX11_undo_14 rfl 0 rfl ?_
    refine x_bipush (v := 6) dX11_undo_15 (by decide) ?_
    obtain ⟨c15, H⟩ := ko_o H
    obtain ⟨v11, h12, hc13, H⟩ := bd_o H
    refine x_callVi (As := [.int 6]) (q := (RX11, TX11, 17)) dX11_undo_17 mi_X11_deny lk_X11_115 im_X11_deny se_X11_deny rfl c15 rfl rfl (Nat.le_of_ble_eq_true rfl) (t_X11_deny (by omega) hc13) ?_
    refine x_if_eq (tgt := 27) dX11_undo_20 (by decide) (fun c14 => ?_) (fun c14 => ?_)
    · replace H := ite_p H c14
      refine x_iconst (v := 0) dX11_undo_27 (by decide) ?_
      refine Ex.sub [] rfl ?_
      exact t_X11_undo_28 hd H
    · replace H := ite_m H c14
      refine Ex.sub [] rfl ?_
      exact t_X11_undo_23 hd H
def f_X11_seed (x0 : Nat) (x1 : Int32) (h : aH) : Option (Int32 × aH) :=
  if 0 ≤ x1 then
    ko h x0 10 <|
    some (1, sL h x0 16 x1.toInt64)
  else
    ko h x0 10 <|
    bd (f_X11_deny x0 7 h) fun v3 h4 =>
    chk (narrow .boolean (.int v3) = .int v3) <|
    some (v3, h4)
set_option maxRecDepth 100000 in
set_option maxHeartbeats 4000000 in
theorem t_X11_seed {Γ : gS} {d : Nat} (hd : 2 ≤ d) {x0 : Nat} {x1 : Int32} {h : aH} {r : Int32} {h' : aH} (H : f_X11_seed x0 x1 h = some (r, h')) : Mx Γ gX11_seed d [.ref x0, .int x1] h (some (.int r)) h' := by
  refine Mx.of (by decide +kernel) (Nat.le_of_ble_eq_true rfl) ?_
  unfold f_X11_seed at H
  show Ex Γ gX11_seed d 0 [(0, .ref x0), (1, .int x1)] [] h (some (.int r)) h'
  obtain ⟨d, rfl⟩ : ∃ e, d = e + 1 := ⟨d - 1, by omega⟩
  refine x_iload_n dX11_seed_0 rfl 1 rfl ?_
  refine x_if_ge (tgt := 11) dX11_seed_1 (by decide) (fun c1 => ?_) (fun c1 => ?_)
  · replace H := ite_p H c1
    refine x_aload_n dX11_seed_11 rfl 0 rfl ?_
    refine x_iload_n dX11_seed_12 rfl 1 rfl ?_
    refine x_i2l dX11_seed_13 ?_
    obtain ⟨c2, H⟩ := ko_o H
    refine x_putL fl_X11_103 dX11_seed_14 c2 (fun e => by cases e) rfl ?_
    refine x_iconst (v := 1) dX11_seed_17 (by decide) ?_
    obtain ⟨rfl, rfl⟩ := so_1 H
    exact x_iret dX11_seed_18 rfl (by decide)
  · replace H := ite_m H c1
    refine x_aload_n dX11_seed_4 rfl 0 rfl ?_
    refine x_bipush (v := 7) dX11_seed_5 (by decide) ?_
    obtain ⟨c7, H⟩ := ko_o H
    obtain ⟨v3, h4, hc5, H⟩ := bd_o H
    refine x_callVi (As := [.int 7]) (q := (RX11, TX11, 17)) dX11_seed_7 mi_X11_deny lk_X11_115 im_X11_deny se_X11_deny rfl c7 rfl rfl (Nat.le_of_ble_eq_true rfl) (t_X11_deny (by omega) hc5) ?_
    obtain ⟨c6, H⟩ := chk_o H
    obtain ⟨rfl, rfl⟩ := so_1 H
    exact x_iret dX11_seed_10 rfl c6
def f_X11_answer_120 (k20 : Nat → Int32 → Int64 → Int32 → Int32 → Int32 → Int32 → Int32 → Int32 → aH → Option (Int64 × aH)) (x0 : Nat) (x1 : Int32) (x2 : Int64) (x4 : Int32) (x5 : Int32) (x6 : Int32) (x7 : Int32) (x8 : Int32) (x9 : Int32) (h : aH) : Option (Int64 × aH) :=
  nm (x9 + 1) fun (v1 : Int32) =>
  k20 x0 x1 x2 x4 x5 x6 x7 x8 v1 h
set_option maxRecDepth 100000 in
set_option maxHeartbeats 4000000 in
theorem t_X11_answer_120 {Γ : gS} {d : Nat} (hd : 5 ≤ d) {k20 : Nat → Int32 → Int64 → Int32 → Int32 → Int32 → Int32 → Int32 → Int32 → aH → Option (Int64 × aH)} (hk20 : ∀ {x0 : Nat} {x1 : Int32} {x2 : Int64} {x4 : Int32} {x5 : Int32} {x6 : Int32} {x7 : Int32} {x8 : Int32} {x9 : Int32} {h : aH} {r : Int64} {h' : aH}, k20 x0 x1 x2 x4 x5 x6 x7 x8 x9 h = some (r, h') → Ex Γ gX11_answer d 20 [(0, .ref x0), (1, .int x1), (2, .long x2), (4, .int x4), (5, .int x5), (6, .int x6), (7, .int x7), (8, .int x8), (9, .int x9)] [] h (some (.long r)) h') {x0 : Nat} {x1 : Int32} {x2 : Int64} {x4 : Int32} {x5 : Int32} {x6 : Int32} {x7 : Int32} {x8 : Int32} {x9 : Int32} {h : aH} {r : Int64} {h' : aH} (H : f_X11_answer_120 k20 x0 x1 x2 x4 x5 x6 x7 x8 x9 h = some (r, h')) : Ex Γ gX11_answer d 120 [(0, .ref x0), (1, .int x1), (2, .long x2), (4, .int x4), (5, .int x5), (6, .int x6), (7, .int x7), (8, .int x8), (9, .int x9)] [] h (some (.long r)) h' := by
  unfold f_X11_answer_120 at H
  obtain ⟨d, rfl⟩ : ∃ e, d = e + 1 := ⟨d - 1, by omega⟩
  obtain ⟨v1, ev1, H⟩ := nm_o H
  refine x_iinc (v := v1) (lv' := [(9, .int v1), (0, .ref x0), (1, .int x1), (2, .long x2), (4, .int x4), (5, .int x5), (6, .int x6), (7, .int x7), (8, .int x8)]) dX11_answer_120 8 rfl (by decide) ev1 rfl ?_
  refine x_goto (tgt := 20) dX11_answer_123 (by decide) ?_
  refine Ex.sub [1, 2, 3, 4, 5, 6, 7, 8, 0] rfl ?_
  exact hk20 H
def f_X11_answer_118 (k20 : Nat → Int32 → Int64 → Int32 → Int32 → Int32 → Int32 → Int32 → Int32 → aH → Option (Int64 × aH)) (x0 : Nat) (x1 : Int32) (x2 : Int64) (x4 : Int32) (x5 : Int32) (x6 : Int32) (x8 : Int32) (x9 : Int32) (s0 : Int32) (h : aH) : Option (Int64 × aH) :=
  f_X11_answer_120 k20 x0 x1 x2 x4 x5 x6 s0 x8 x9 h
set_option maxRecDepth 100000 in
set_option maxHeartbeats 4000000 in
theorem t_X11_answer_118 {Γ : gS} {d : Nat} (hd : 5 ≤ d) {k20 : Nat → Int32 → Int64 → Int32 → Int32 → Int32 → Int32 → Int32 → Int32 → aH → Option (Int64 × aH)} (hk20 : ∀ {x0 : Nat} {x1 : Int32} {x2 : Int64} {x4 : Int32} {x5 : Int32} {x6 : Int32} {x7 : Int32} {x8 : Int32} {x9 : Int32} {h : aH} {r : Int64} {h' : aH}, k20 x0 x1 x2 x4 x5 x6 x7 x8 x9 h = some (r, h') → Ex Γ gX11_answer d 20 [(0, .ref x0), (1, .int x1), (2, .long x2), (4, .int x4), (5, .int x5), (6, .int x6), (7, .int x7), (8, .int x8), (9, .int x9)] [] h (some (.long r)) h') {x0 : Nat} {x1 : Int32} {x2 : Int64} {x4 : Int32} {x5 : Int32} {x6 : Int32} {x8 : Int32} {x9 : Int32} {s0 : Int32} {h : aH} {r : Int64} {h' : aH} (H : f_X11_answer_118 k20 x0 x1 x2 x4 x5 x6 x8 x9 s0 h = some (r, h')) : Ex Γ gX11_answer d 118 [(0, .ref x0), (1, .int x1), (2, .long x2), (4, .int x4), (5, .int x5), (6, .int x6), (8, .int x8), (9, .int x9)] [.int s0] h (some (.long r)) h' := by
  unfold f_X11_answer_118 at H
  obtain ⟨d, rfl⟩ : ∃ e, d = e + 1 := ⟨d - 1, by omega⟩
  refine x_istore (lv' := [(7, .int s0), (0, .ref x0), (1, .int x1), (2, .long x2), (4, .int x4), (5, .int x5), (6, .int x6), (8, .int x8), (9, .int x9)]) dX11_answer_118 (by decide) rfl rfl ?_
  refine Ex.sub [1, 2, 3, 4, 5, 6, 0, 7, 8] rfl ?_
  exact t_X11_answer_120 hd hk20 H
def f_X11_answer_91 (k20 : Nat → Int32 → Int64 → Int32 → Int32 → Int32 → Int32 → Int32 → Int32 → aH → Option (Int64 × aH)) (x0 : Nat) (x1 : Int32) (x2 : Int64) (x4 : Int32) (x6 : Int32) (x7 : Int32) (x8 : Int32) (x9 : Int32) (x10 : Int32) (s0 : Int32) (h : aH) : Option (Int64 × aH) :=
  if x10 = 0 then
    f_X11_answer_120 k20 x0 x1 x2 x4 s0 x6 x7 x8 x9 h
  else
    nm (x6 + 1) fun (v3 : Int32) =>
    if x7 = (-1) then
      f_X11_answer_118 k20 x0 x1 x2 x4 s0 v3 x9 x9 x9 h
    else
      f_X11_answer_118 k20 x0 x1 x2 x4 s0 v3 x9 x9 x7 h
set_option maxRecDepth 100000 in
set_option maxHeartbeats 4000000 in
theorem t_X11_answer_91 {Γ : gS} {d : Nat} (hd : 5 ≤ d) {k20 : Nat → Int32 → Int64 → Int32 → Int32 → Int32 → Int32 → Int32 → Int32 → aH → Option (Int64 × aH)} (hk20 : ∀ {x0 : Nat} {x1 : Int32} {x2 : Int64} {x4 : Int32} {x5 : Int32} {x6 : Int32} {x7 : Int32} {x8 : Int32} {x9 : Int32} {h : aH} {r : Int64} {h' : aH}, k20 x0 x1 x2 x4 x5 x6 x7 x8 x9 h = some (r, h') → Ex Γ gX11_answer d 20 [(0, .ref x0), (1, .int x1), (2, .long x2), (4, .int x4), (5, .int x5), (6, .int x6), (7, .int x7), (8, .int x8), (9, .int x9)] [] h (some (.long r)) h') {x0 : Nat} {x1 : Int32} {x2 : Int64} {x4 : Int32} {x6 : Int32} {x7 : Int32} {x8 : Int32} {x9 : Int32} {x10 : Int32} {s0 : Int32} {h : aH} {r : Int64} {h' : aH} (H : f_X11_answer_91 k20 x0 x1 x2 x4 x6 x7 x8 x9 x10 s0 h = some (r, h')) : Ex Γ gX11_answer d 91 [(0, .ref x0), (1, .int x1), (2, .long x2), (4, .int x4), (6, .int x6), (7, .int x7), (8, .int x8), (9, .int x9), (10, .int x10)] [.int s0] h (some (.long r)) h' := by
  unfold f_X11_answer_91 at H
  obtain ⟨d, rfl⟩ : ∃ e, d = e + 1 := ⟨d - 1, by omega⟩
  refine x_istore (lv' := [(5, .int s0), (0, .ref x0), (1, .int x1), (2, .long x2), (4, .int x4), (6, .int x6), (7, .int x7), (8, .int x8), (9, .int x9), (10, .int x10)]) dX11_answer_91 (by decide) rfl rfl ?_
  refine x_iload dX11_answer_93 9 rfl ?_
  refine x_if_eq (tgt := 120) dX11_answer_95 (by decide) (fun c2 => ?_) (fun c2 => ?_)
  · replace H := ite_p H c2
    refine Ex.sub [1, 2, 3, 4, 0, 5, 6, 7, 8] rfl ?_
    exact t_X11_answer_120 hd hk20 H
  · replace H := ite_m H c2
    obtain ⟨v3, ev3, H⟩ := nm_o H
    refine x_iinc (v := v3) (lv' := [(6, .int v3), (5, .int s0), (0, .ref x0), (1, .int x1), (2, .long x2), (4, .int x4), (7, .int x7), (8, .int x8), (9, .int x9), (10, .int x10)]) dX11_answer_98 5 rfl (by decide) ev3 rfl ?_
    refine x_iload dX11_answer_101 8 rfl ?_
    refine x_istore (lv' := [(8, .int x9), (6, .int v3), (5, .int s0), (0, .ref x0), (1, .int x1), (2, .long x2), (4, .int x4), (7, .int x7), (9, .int x9), (10, .int x10)]) dX11_answer_103 (by decide) rfl rfl ?_
    refine x_iload dX11_answer_105 7 rfl ?_
    refine x_iconst (v := (-1)) dX11_answer_107 (by decide) ?_
    refine x_icmp_ne (tgt := 116) dX11_answer_108 (by decide) (fun c4 => ?_) (fun c4 => ?_)
    · replace H := ite_m H c4
      refine x_iload dX11_answer_116 7 rfl ?_
      refine Ex.sub [3, 4, 5, 6, 2, 1, 0, 8] rfl ?_
      exact t_X11_answer_118 hd hk20 H
    · replace H := ite_p H c4
      refine x_iload dX11_answer_111 8 rfl ?_
      refine x_goto (tgt := 118) dX11_answer_113 (by decide) ?_
      refine Ex.sub [3, 4, 5, 6, 2, 1, 0, 8] rfl ?_
      exact t_X11_answer_118 hd hk20 H
def f_X11_answer_72 (k20 : Nat → Int32 → Int64 → Int32 → Int32 → Int32 → Int32 → Int32 → Int32 → aH → Option (Int64 × aH)) (x0 : Nat) (x1 : Int32) (x2 : Int64) (x5 : Int32) (x6 : Int32) (x7 : Int32) (x8 : Int32) (x9 : Int32) (x10 : Int32) (s0 : Int32) (h : aH) : Option (Int64 × aH) :=
  if x9 = 0 then
    f_X11_answer_91 k20 x0 x1 x2 s0 x6 x7 x8 x9 x10 x10 h
  else
    bd (f_J9_min_7cf53 x5 x10 h) fun v6 h7 =>
    f_X11_answer_91 k20 x0 x1 x2 s0 x6 x7 x8 x9 x10 v6 h7
set_option maxRecDepth 100000 in
set_option maxHeartbeats 4000000 in
theorem t_X11_answer_72 {Γ : gS} {d : Nat} (hd : 5 ≤ d) {k20 : Nat → Int32 → Int64 → Int32 → Int32 → Int32 → Int32 → Int32 → Int32 → aH → Option (Int64 × aH)} (hk20 : ∀ {x0 : Nat} {x1 : Int32} {x2 : Int64} {x4 : Int32} {x5 : Int32} {x6 : Int32} {x7 : Int32} {x8 : Int32} {x9 : Int32} {h : aH} {r : Int64} {h' : aH}, k20 x0 x1 x2 x4 x5 x6 x7 x8 x9 h = some (r, h') → Ex Γ gX11_answer d 20 [(0, .ref x0), (1, .int x1), (2, .long x2), (4, .int x4), (5, .int x5), (6, .int x6), (7, .int x7), (8, .int x8), (9, .int x9)] [] h (some (.long r)) h') {x0 : Nat} {x1 : Int32} {x2 : Int64} {x5 : Int32} {x6 : Int32} {x7 : Int32} {x8 : Int32} {x9 : Int32} {x10 : Int32} {s0 : Int32} {h : aH} {r : Int64} {h' : aH} (H : f_X11_answer_72 k20 x0 x1 x2 x5 x6 x7 x8 x9 x10 s0 h = some (r, h')) : Ex Γ gX11_answer d 72 [(0, .ref x0), (1, .int x1), (2, .long x2), (5, .int x5), (6, .int x6), (7, .int x7), (8, .int x8), (9, .int x9), (10, .int x10)] [.int s0] h (some (.long r)) h' := by
  unfold f_X11_answer_72 at H
  obtain ⟨d, rfl⟩ : ∃ e, d = e + 1 := ⟨d - 1, by omega⟩
  refine x_istore (lv' := [(4, .int s0), (0, .ref x0), (1, .int x1), (2, .long x2), (5, .int x5), (6, .int x6), (7, .int x7), (8, .int x8), (9, .int x9), (10, .int x10)]) dX11_answer_72 (by decide) rfl rfl ?_
  refine x_iload dX11_answer_74 8 rfl ?_
  refine x_if_ne (tgt := 84) dX11_answer_76 (by decide) (fun c5 => ?_) (fun c5 => ?_)
  · replace H := ite_m H c5
    refine x_iload dX11_answer_84 4 rfl ?_
    refine x_iload dX11_answer_86 9 rfl ?_
    obtain ⟨v6, h7, hc8, H⟩ := bd_o H
    refine x_callSi (As := [.int x5, .int x10]) dX11_answer_88 mi_J9_min_7cf53 lk_X11_414 sm_J9_min_7cf53 rfl rfl (Nat.le_of_ble_eq_true rfl) (t_J9_min_7cf53 (by omega) hc8) ?_
    refine Ex.sub [1, 2, 3, 0, 5, 6, 7, 8, 9] rfl ?_
    exact t_X11_answer_91 hd hk20 H
  · replace H := ite_p H c5
    refine x_iload dX11_answer_79 9 rfl ?_
    refine x_goto (tgt := 91) dX11_answer_81 (by decide) ?_
    refine Ex.sub [1, 2, 3, 0, 5, 6, 7, 8, 9] rfl ?_
    exact t_X11_answer_91 hd hk20 H
def f_X11_answer_178 (x5 : Int32) (h : aH) : Option (Int64 × aH) :=
  some (x5.toInt64, h)
set_option maxRecDepth 100000 in
set_option maxHeartbeats 4000000 in
theorem t_X11_answer_178 {Γ : gS} {d : Nat} (hd : 5 ≤ d) {x5 : Int32} {h : aH} {r : Int64} {h' : aH} (H : f_X11_answer_178 x5 h = some (r, h')) : Ex Γ gX11_answer d 178 [(5, .int x5)] [] h (some (.long r)) h' := by
  unfold f_X11_answer_178 at H
  obtain ⟨d, rfl⟩ : ∃ e, d = e + 1 := ⟨d - 1, by omega⟩
  refine x_iload dX11_answer_178 0 rfl ?_
  refine x_i2l dX11_answer_180 ?_
  obtain ⟨rfl, rfl⟩ := so_1 H
  exact x_lret dX11_answer_181 rfl
def b_X11_answer_20 (k20 : Nat → Int32 → Int64 → Int32 → Int32 → Int32 → Int32 → Int32 → Int32 → aH → Option (Int64 × aH)) (x0 : Nat) (x1 : Int32) (x2 : Int64) (x4 : Int32) (x5 : Int32) (x6 : Int32) (x7 : Int32) (x8 : Int32) (x9 : Int32) (h : aH) : Option (Int64 × aH) :=
  if 16 ≤ x9 then
    if x1 < 25 then
      f_X11_answer_178 x5 h
    else
    if 29 < x1 then
      f_X11_answer_178 x5 h
    else
    if x1 = 25 then
      some (x7.toInt64, h)
    else
    if x1 = 26 then
      some (x8.toInt64, h)
    else
    if x1 = 27 then
      some (x6.toInt64, h)
    else
    if x1 = 28 then
      some (x2, h)
    else
    if x1 = 29 then
      some (x4.toInt64, h)
    else
    none
  else
    ko h x0 10 <|
    kr (hR h x0 5) fun a18 =>
    kr (hR h x0 10) fun a20 =>
    kr (hR h x0 9) fun a22 =>
    ko h a22 4 <|
    ko h a18 0 <|
    bd (f_X0_askOf a18 a20 x9 (hI h a22 2) h) fun v25 h26 =>
    nm (x2 + v25.toInt64) fun (v28 : Int64) =>
    if x9 = 0 then
      f_X11_answer_72 k20 x0 x1 v28 x5 x6 x7 x8 x9 v25 v25 h26
    else
      bd (f_J9_max_7cf53 x4 v25 h26) fun v30 h31 =>
      f_X11_answer_72 k20 x0 x1 v28 x5 x6 x7 x8 x9 v25 v30 h31
set_option maxRecDepth 100000 in
set_option maxHeartbeats 4000000 in
theorem tb_X11_answer_20 {Γ : gS} {d : Nat} (hd : 5 ≤ d) {k20 : Nat → Int32 → Int64 → Int32 → Int32 → Int32 → Int32 → Int32 → Int32 → aH → Option (Int64 × aH)} (hk20 : ∀ {x0 : Nat} {x1 : Int32} {x2 : Int64} {x4 : Int32} {x5 : Int32} {x6 : Int32} {x7 : Int32} {x8 : Int32} {x9 : Int32} {h : aH} {r : Int64} {h' : aH}, k20 x0 x1 x2 x4 x5 x6 x7 x8 x9 h = some (r, h') → Ex Γ gX11_answer d 20 [(0, .ref x0), (1, .int x1), (2, .long x2), (4, .int x4), (5, .int x5), (6, .int x6), (7, .int x7), (8, .int x8), (9, .int x9)] [] h (some (.long r)) h') {x0 : Nat} {x1 : Int32} {x2 : Int64} {x4 : Int32} {x5 : Int32} {x6 : Int32} {x7 : Int32} {x8 : Int32} {x9 : Int32} {h : aH} {r : Int64} {h' : aH} (H : b_X11_answer_20 k20 x0 x1 x2 x4 x5 x6 x7 x8 x9 h = some (r, h')) : Ex Γ gX11_answer d 20 [(0, .ref x0), (1, .int x1), (2, .long x2), (4, .int x4), (5, .int x5), (6, .int x6), (7, .int x7), (8, .int x8), (9, .int x9)] [] h (some (.long r)) h' := by
  unfold b_X11_answer_20 at H
  obtain ⟨d, rfl⟩ : ∃ e, d = e + 1 := ⟨d - 1, by omega⟩
  refine x_iload dX11_answer_20 8 rfl ?_
  refine x_bipush (v := 16) dX11_answer_22 (by decide) ?_
  refine x_icmp_ge (tgt := 126) dX11_answer_24 (by decide) (fun c9 => ?_) (fun c9 => ?_)
  · replace H := ite_p H c9
    refine x_iload_n dX11_answer_126 rfl 1 rfl ?_
    by_cases c10 : x1 < 25
    · replace H := ite_p H c10
      refine x_tableOut (tgt := 178) dX11_answer_127 (Or.inl (sw_lo c10 (by decide))) (by decide) ?_
      refine Ex.sub [4] rfl ?_
      exact t_X11_answer_178 hd H
    replace H := ite_m H c10
    by_cases c11 : 29 < x1
    · replace H := ite_p H c11
      refine x_tableOut (tgt := 178) dX11_answer_127 (Or.inr (sw_hi c11 (by decide))) (by decide) ?_
      refine Ex.sub [4] rfl ?_
      exact t_X11_answer_178 hd H
    replace H := ite_m H c11
    by_cases c12 : x1 = 25
    · replace H := ite_p H c12
      refine x_tableIn (tgt := 160) dX11_answer_127 (by rw [c12]; decide) (by rw [c12]; decide) (by rw [c12]; rfl) (by decide) ?_
      refine x_iload dX11_answer_160 6 rfl ?_
      refine x_i2l dX11_answer_162 ?_
      obtain ⟨rfl, rfl⟩ := so_1 H
      exact x_lret dX11_answer_163 rfl
    replace H := ite_m H c12
    by_cases c13 : x1 = 26
    · replace H := ite_p H c13
      refine x_tableIn (tgt := 164) dX11_answer_127 (by rw [c13]; decide) (by rw [c13]; decide) (by rw [c13]; rfl) (by decide) ?_
      refine x_iload dX11_answer_164 7 rfl ?_
      refine x_i2l dX11_answer_166 ?_
      obtain ⟨rfl, rfl⟩ := so_1 H
      exact x_lret dX11_answer_167 rfl
    replace H := ite_m H c13
    by_cases c14 : x1 = 27
    · replace H := ite_p H c14
      refine x_tableIn (tgt := 168) dX11_answer_127 (by rw [c14]; decide) (by rw [c14]; decide) (by rw [c14]; rfl) (by decide) ?_
      refine x_iload dX11_answer_168 5 rfl ?_
      refine x_i2l dX11_answer_170 ?_
      obtain ⟨rfl, rfl⟩ := so_1 H
      exact x_lret dX11_answer_171 rfl
    replace H := ite_m H c14
    by_cases c15 : x1 = 28
    · replace H := ite_p H c15
      refine x_tableIn (tgt := 172) dX11_answer_127 (by rw [c15]; decide) (by rw [c15]; decide) (by rw [c15]; rfl) (by decide) ?_
      refine x_lload_n dX11_answer_172 rfl 2 rfl ?_
      obtain ⟨rfl, rfl⟩ := so_1 H
      exact x_lret dX11_answer_173 rfl
    replace H := ite_m H c15
    by_cases c16 : x1 = 29
    · replace H := ite_p H c16
      refine x_tableIn (tgt := 174) dX11_answer_127 (by rw [c16]; decide) (by rw [c16]; decide) (by rw [c16]; rfl) (by decide) ?_
      refine x_iload dX11_answer_174 3 rfl ?_
      refine x_i2l dX11_answer_176 ?_
      obtain ⟨rfl, rfl⟩ := so_1 H
      exact x_lret dX11_answer_177 rfl
    replace H := ite_m H c16
    cases H
  · replace H := ite_m H c9
    refine x_aload_n dX11_answer_27 rfl 0 rfl ?_
    obtain ⟨c17, H⟩ := ko_o H
    obtain ⟨a18, c19, H⟩ := kr_o H
    refine x_getR fr_X11_43 dX11_answer_28 c17 rfl c19 ?_
    refine x_aload_n dX11_answer_31 rfl 0 rfl ?_
    obtain ⟨a20, c21, H⟩ := kr_o H
    refine x_getR fr_X11_77 dX11_answer_32 c17 rfl c21 ?_
    refine x_iload dX11_answer_35 8 rfl ?_
    refine x_aload_n dX11_answer_37 rfl 0 rfl ?_
    obtain ⟨a22, c23, H⟩ := kr_o H
    refine x_getR fr_X11_73 dX11_answer_38 c17 rfl c23 ?_
    obtain ⟨c24, H⟩ := ko_o H
    refine x_getI fr_X11_151 dX11_answer_41 c24 rfl ?_
    obtain ⟨c33, H⟩ := ko_o H
    obtain ⟨v25, h26, hc27, H⟩ := bd_o H
    refine x_callVi (As := [.ref a20, .int x9, .int (hI h a22 2)]) (q := (RX0, TX0, 6)) dX11_answer_44 mi_X0_askOf lk_X11_405 im_X0_askOf se_X0_askOf rfl c33 rfl rfl (Nat.le_of_ble_eq_true rfl) (t_X0_askOf (by omega) hc27) ?_
    refine x_istore (lv' := [(10, .int v25), (0, .ref x0), (1, .int x1), (2, .long x2), (4, .int x4), (5, .int x5), (6, .int x6), (7, .int x7), (8, .int x8), (9, .int x9)]) dX11_answer_47 (by decide) rfl rfl ?_
    refine x_lload_n dX11_answer_49 rfl 3 rfl ?_
    refine x_iload dX11_answer_50 0 rfl ?_
    refine x_i2l dX11_answer_52 ?_
    refine x_ladd dX11_answer_53 ?_
    obtain ⟨v28, ev28, H⟩ := nm_o H
    refine x_lstore_n (lv' := [(2, .long v28), (10, .int v25), (0, .ref x0), (1, .int x1), (4, .int x4), (5, .int x5), (6, .int x6), (7, .int x7), (8, .int x8), (9, .int x9)]) dX11_answer_54 rfl (by decide) ev28 rfl ?_
    refine x_iload dX11_answer_55 9 rfl ?_
    refine x_if_ne (tgt := 65) dX11_answer_57 (by decide) (fun c29 => ?_) (fun c29 => ?_)
    · replace H := ite_m H c29
      refine x_iload dX11_answer_65 4 rfl ?_
      refine x_iload dX11_answer_67 1 rfl ?_
      obtain ⟨v30, h31, hc32, H⟩ := bd_o H
      refine x_callSi (As := [.int x4, .int v25]) dX11_answer_69 mi_J9_max_7cf53 lk_X11_409 sm_J9_max_7cf53 rfl rfl (Nat.le_of_ble_eq_true rfl) (t_J9_max_7cf53 (by omega) hc32) ?_
      refine Ex.sub [2, 3, 0, 5, 6, 7, 8, 9, 1] rfl ?_
      exact t_X11_answer_72 hd hk20 H
    · replace H := ite_p H c29
      refine x_iload dX11_answer_60 1 rfl ?_
      refine x_goto (tgt := 72) dX11_answer_62 (by decide) ?_
      refine Ex.sub [2, 3, 0, 5, 6, 7, 8, 9, 1] rfl ?_
      exact t_X11_answer_72 hd hk20 H
def f_X11_answer_20 : Nat → Nat → Int32 → Int64 → Int32 → Int32 → Int32 → Int32 → Int32 → Int32 → aH → Option (Int64 × aH)
  | 0 => fun _ _ _ _ _ _ _ _ _ _ => none
  | n + 1 => b_X11_answer_20 (f_X11_answer_20 n)
set_option maxRecDepth 100000 in
set_option maxHeartbeats 4000000 in
theorem t_X11_answer_20 {Γ : gS} {d : Nat} (hd : 5 ≤ d) (n : Nat) : ∀ {x0 : Nat} {x1 : Int32} {x2 : Int64} {x4 : Int32} {x5 : Int32} {x6 : Int32} {x7 : Int32} {x8 : Int32} {x9 : Int32} {h : aH} {r : Int64} {h' : aH}, f_X11_answer_20 n x0 x1 x2 x4 x5 x6 x7 x8 x9 h = some (r, h') → Ex Γ gX11_answer d 20 [(0, .ref x0), (1, .int x1), (2, .long x2), (4, .int x4), (5, .int x5), (6, .int x6), (7, .int x7), (8, .int x8), (9, .int x9)] [] h (some (.long r)) h' := by
  induction n with
  | zero => intro x0 x1 x2 x4 x5 x6 x7 x8 x9 h r h' H; cases H
  | succ n ih => intro x0 x1 x2 x4 x5 x6 x7 x8 x9 h r h' H; exact tb_X11_answer_20 hd ih H
def f_X11_answer (x0 : Nat) (x1 : Int32) (h : aH) : Option (Int64 × aH) :=
  f_X11_answer_20 FU x0 x1 0 0 0 0 (-1) (-1) 0 h
set_option maxRecDepth 100000 in
set_option maxHeartbeats 4000000 in
theorem t_X11_answer {Γ : gS} {d : Nat} (hd : 5 ≤ d) {x0 : Nat} {x1 : Int32} {h : aH} {r : Int64} {h' : aH} (H : f_X11_answer x0 x1 h = some (r, h')) : Mx Γ gX11_answer d [.ref x0, .int x1] h (some (.long r)) h' := by
  refine Mx.of (by decide +kernel) (Nat.le_of_ble_eq_true rfl) ?_
  unfold f_X11_answer at H
  show Ex Γ gX11_answer d 0 [(0, .ref x0), (1, .int x1)] [] h (some (.long r)) h'
  obtain ⟨d, rfl⟩ : ∃ e, d = e + 1 := ⟨d - 1, by omega⟩
  refine x_lconst (v := 0) dX11_answer_0 (by decide) ?_
  refine x_lstore_n (lv' := [(2, .long 0), (0, .ref x0), (1, .int x1)]) dX11_answer_1 rfl (by decide) rfl rfl ?_
  refine x_iconst (v := 0) dX11_answer_2 (by decide) ?_
  refine x_istore (lv' := [(4, .int 0), (2, .long 0), (0, .ref x0), (1, .int x1)]) dX11_answer_3 (by decide) rfl rfl ?_
  refine x_iconst (v := 0) dX11_answer_5 (by decide) ?_
  refine x_istore (lv' := [(5, .int 0), (4, .int 0), (2, .long 0), (0, .ref x0), (1, .int x1)]) dX11_answer_6 (by decide) rfl rfl ?_
  refine x_iconst (v := 0) dX11_answer_8 (by decide) ?_
  refine x_istore (lv' := [(6, .int 0), (5, .int 0), (4, .int 0), (2, .long 0), (0, .ref x0), (1, .int x1)]) dX11_answer_9 (by decide) rfl rfl ?_
  refine x_iconst (v := (-1)) dX11_answer_11 (by decide) ?_
  refine x_istore (lv' := [(7, .int (-1)), (6, .int 0), (5, .int 0), (4, .int 0), (2, .long 0), (0, .ref x0), (1, .int x1)]) dX11_answer_12 (by decide) rfl rfl ?_
  refine x_iconst (v := (-1)) dX11_answer_14 (by decide) ?_
  refine x_istore (lv' := [(8, .int (-1)), (7, .int (-1)), (6, .int 0), (5, .int 0), (4, .int 0), (2, .long 0), (0, .ref x0), (1, .int x1)]) dX11_answer_15 (by decide) rfl rfl ?_
  refine x_iconst (v := 0) dX11_answer_17 (by decide) ?_
  refine x_istore (lv' := [(9, .int 0), (8, .int (-1)), (7, .int (-1)), (6, .int 0), (5, .int 0), (4, .int 0), (2, .long 0), (0, .ref x0), (1, .int x1)]) dX11_answer_18 (by decide) rfl rfl ?_
  refine Ex.sub [7, 8, 6, 5, 4, 3, 2, 1, 0] rfl ?_
  exact t_X11_answer_20 hd FU H
def f_X11_ask_53 (s0 : Int64) (h : aH) : Option (Int64 × aH) :=
  some (s0, h)
set_option maxRecDepth 100000 in
set_option maxHeartbeats 4000000 in
theorem t_X11_ask_53 {Γ : gS} {d : Nat} (hd : 111 ≤ d) {s0 : Int64} {h : aH} {r : Int64} {h' : aH} (H : f_X11_ask_53 s0 h = some (r, h')) : Ex Γ gX11_ask d 53 [] [.long s0] h (some (.long r)) h' := by
  unfold f_X11_ask_53 at H
  obtain ⟨d, rfl⟩ : ∃ e, d = e + 1 := ⟨d - 1, by omega⟩
  obtain ⟨rfl, rfl⟩ := so_1 H
  exact x_lret dX11_ask_53 rfl
def f_X11_ask (x0 : Nat) (h : aH) : Option (Int64 × aH) :=
  ko h x0 10 <|
  bd (f_X11_takeTape x0 h) fun v1 h2 =>
  ko h2 x0 10 <|
  if (hI h2 x0 12) = 0 then
    some ((-1000000000000000), h2)
  else
    kr (hR h2 x0 11) fun a6 =>
    kr (hR h2 x0 0) fun a8 =>
    kr (hR h2 x0 10) fun a10 =>
    ko h2 a6 5 <|
    bd (f_X5_readQuestion a6 a8 v1 a10 h2) fun v12 h13 =>
    ko h13 x0 10 <|
    bd (f_X11_keepFault x0 h13) fun _ h16 =>
    if v12 = (-1) then
      f_X11_ask_53 (-1000000000000000) h16
    else
      ko h16 x0 10 <|
      bd (f_X11_answer x0 v12 h16) fun v19 h20 =>
      f_X11_ask_53 v19 h20
set_option maxRecDepth 100000 in
set_option maxHeartbeats 4000000 in
theorem t_X11_ask {Γ : gS} {d : Nat} (hd : 111 ≤ d) {x0 : Nat} {h : aH} {r : Int64} {h' : aH} (H : f_X11_ask x0 h = some (r, h')) : Mx Γ gX11_ask d [.ref x0] h (some (.long r)) h' := by
  refine Mx.of (by decide +kernel) (Nat.le_of_ble_eq_true rfl) ?_
  unfold f_X11_ask at H
  show Ex Γ gX11_ask d 0 [(0, .ref x0)] [] h (some (.long r)) h'
  obtain ⟨d, rfl⟩ : ∃ e, d = e + 1 := ⟨d - 1, by omega⟩
  refine x_aload_n dX11_ask_0 rfl 0 rfl ?_
  obtain ⟨c25, H⟩ := ko_o H
  obtain ⟨v1, h2, hc3, H⟩ := bd_o H
  refine x_callVi (As := []) (q := (RX11, TX11, 17)) dX11_ask_1 mi_X11_takeTape lk_X11_119 im_X11_takeTape se_X11_takeTape rfl c25 rfl rfl (Nat.le_of_ble_eq_true rfl) (t_X11_takeTape (by omega) hc3) ?_
  refine x_istore_n (lv' := [(1, .int v1), (0, .ref x0)]) dX11_ask_4 rfl (by decide) rfl rfl ?_
  refine x_aload_n dX11_ask_5 rfl 1 rfl ?_
  obtain ⟨c4, H⟩ := ko_o H
  refine x_getI fr_X11_89 dX11_ask_6 c4 rfl ?_
  refine x_if_ne (tgt := 16) dX11_ask_9 (by decide) (fun c5 => ?_) (fun c5 => ?_)
  · replace H := ite_m H c5
    refine x_aload_n dX11_ask_16 rfl 1 rfl ?_
    obtain ⟨a6, c7, H⟩ := kr_o H
    refine x_getR fr_X11_85 dX11_ask_17 c4 rfl c7 ?_
    refine x_aload_n dX11_ask_20 rfl 1 rfl ?_
    obtain ⟨a8, c9, H⟩ := kr_o H
    refine x_getR fr_X11_9 dX11_ask_21 c4 rfl c9 ?_
    refine x_iload_n dX11_ask_24 rfl 0 rfl ?_
    refine x_aload_n dX11_ask_25 rfl 1 rfl ?_
    obtain ⟨a10, c11, H⟩ := kr_o H
    refine x_getR fr_X11_77 dX11_ask_26 c4 rfl c11 ?_
    obtain ⟨c24, H⟩ := ko_o H
    obtain ⟨v12, h13, hc14, H⟩ := bd_o H
    refine x_callVi (As := [.ref a8, .int v1, .ref a10]) (q := (RX5, TX5, 5)) dX11_ask_29 mi_X5_readQuestion lk_X11_397 im_X5_readQuestion se_X5_readQuestion rfl c24 rfl rfl (Nat.le_of_ble_eq_true rfl) (t_X5_readQuestion (by omega) hc14) ?_
    refine x_istore_n (lv' := [(2, .int v12), (1, .int v1), (0, .ref x0)]) dX11_ask_32 rfl (by decide) rfl rfl ?_
    refine x_aload_n dX11_ask_33 rfl 2 rfl ?_
    obtain ⟨c23, H⟩ := ko_o H
    obtain ⟨v15, h16, hc17, H⟩ := bd_o H
    refine x_callVv (As := []) (q := (RX11, TX11, 17)) dX11_ask_34 mi_X11_keepFault lk_X11_127 im_X11_keepFault se_X11_keepFault rfl c23 rfl rfl (Nat.le_of_ble_eq_true rfl) (t_X11_keepFault (by omega) hc17) ?_
    refine x_iload_n dX11_ask_37 rfl 0 rfl ?_
    refine x_iconst (v := (-1)) dX11_ask_38 (by decide) ?_
    refine x_icmp_ne (tgt := 48) dX11_ask_39 (by decide) (fun c18 => ?_) (fun c18 => ?_)
    · replace H := ite_m H c18
      refine x_aload_n dX11_ask_48 rfl 2 rfl ?_
      refine x_iload_n dX11_ask_49 rfl 0 rfl ?_
      obtain ⟨c22, H⟩ := ko_o H
      obtain ⟨v19, h20, hc21, H⟩ := bd_o H
      refine x_callVl (As := [.int v12]) (q := (RX11, TX11, 17)) dX11_ask_50 mi_X11_answer lk_X11_401 im_X11_answer se_X11_answer rfl c22 rfl rfl (Nat.le_of_ble_eq_true rfl) (t_X11_answer (by omega) hc21) ?_
      refine Ex.sub [] rfl ?_
      exact t_X11_ask_53 hd H
    · replace H := ite_p H c18
      refine x_ldc2 kc_X11_395 dX11_ask_42 ?_
      refine x_goto (tgt := 53) dX11_ask_45 (by decide) ?_
      refine Ex.sub [] rfl ?_
      exact t_X11_ask_53 hd H
  · replace H := ite_p H c5
    refine x_ldc2 kc_X11_395 dX11_ask_12 ?_
    obtain ⟨rfl, rfl⟩ := so_1 H
    exact x_lret dX11_ask_15 rfl
def f_X11_image (x0 : Nat) (h : aH) : Option (Int32 × aH) :=
  ko h x0 10 <|
  if (hI h x0 12) = 0 then
    some ((-1), h)
  else
    kr (hR h x0 8) fun a3 =>
    kr (hR h x0 2) fun a5 =>
    kr (hR h x0 9) fun a7 =>
    ko h a3 3 <|
    bd (f_X3_write a3 a5 a7 h) fun _ h10 =>
    ko h10 x0 10 <|
    kr (hR h10 x0 8) fun a13 =>
    ko h10 a13 3 <|
    some (hI h10 a13 1, h10)
set_option maxRecDepth 100000 in
set_option maxHeartbeats 4000000 in
theorem t_X11_image {Γ : gS} {d : Nat} (hd : 4 ≤ d) {x0 : Nat} {h : aH} {r : Int32} {h' : aH} (H : f_X11_image x0 h = some (r, h')) : Mx Γ gX11_image d [.ref x0] h (some (.int r)) h' := by
  refine Mx.of (by decide +kernel) (Nat.le_of_ble_eq_true rfl) ?_
  unfold f_X11_image at H
  show Ex Γ gX11_image d 0 [(0, .ref x0)] [] h (some (.int r)) h'
  obtain ⟨d, rfl⟩ : ∃ e, d = e + 1 := ⟨d - 1, by omega⟩
  refine x_aload_n dX11_image_0 rfl 0 rfl ?_
  obtain ⟨c1, H⟩ := ko_o H
  refine x_getI fr_X11_89 dX11_image_1 c1 rfl ?_
  refine x_if_ne (tgt := 9) dX11_image_4 (by decide) (fun c2 => ?_) (fun c2 => ?_)
  · replace H := ite_m H c2
    refine x_aload_n dX11_image_9 rfl 0 rfl ?_
    obtain ⟨a3, c4, H⟩ := kr_o H
    refine x_getR fr_X11_66 dX11_image_10 c1 rfl c4 ?_
    refine x_aload_n dX11_image_13 rfl 0 rfl ?_
    obtain ⟨a5, c6, H⟩ := kr_o H
    refine x_getR fr_X11_20 dX11_image_14 c1 rfl c6 ?_
    refine x_aload_n dX11_image_17 rfl 0 rfl ?_
    obtain ⟨a7, c8, H⟩ := kr_o H
    refine x_getR fr_X11_73 dX11_image_18 c1 rfl c8 ?_
    obtain ⟨c16, H⟩ := ko_o H
    obtain ⟨v9, h10, hc11, H⟩ := bd_o H
    refine x_callVv (As := [.ref a5, .ref a7]) (q := (RX3, TX3, 2)) dX11_image_21 mi_X3_write lk_X11_417 im_X3_write se_X3_write rfl c16 rfl rfl (Nat.le_of_ble_eq_true rfl) (t_X3_write (by omega) hc11) ?_
    refine x_aload_n dX11_image_24 rfl 0 rfl ?_
    obtain ⟨c12, H⟩ := ko_o H
    obtain ⟨a13, c14, H⟩ := kr_o H
    refine x_getR fr_X11_66 dX11_image_25 c12 rfl c14 ?_
    obtain ⟨c15, H⟩ := ko_o H
    refine x_getI fr_X11_421 dX11_image_28 c15 rfl ?_
    obtain ⟨rfl, rfl⟩ := so_1 H
    exact x_iret dX11_image_31 rfl rfl
  · replace H := ite_p H c2
    refine x_iconst (v := (-1)) dX11_image_7 (by decide) ?_
    obtain ⟨rfl, rfl⟩ := so_1 H
    exact x_iret dX11_image_8 rfl rfl
def f_X11_octet_32 (s0 : Int32) (h : aH) : Option (Int32 × aH) :=
  some (s0, h)
set_option maxRecDepth 100000 in
set_option maxHeartbeats 4000000 in
theorem t_X11_octet_32 {Γ : gS} {d : Nat} (hd : 0 ≤ d) {s0 : Int32} {h : aH} {r : Int32} {h' : aH} (H : f_X11_octet_32 s0 h = some (r, h')) : Ex Γ gX11_octet d 32 [] [.int s0] h (some (.int r)) h' := by
  unfold f_X11_octet_32 at H
  obtain ⟨rfl, rfl⟩ := so_1 H
  exact x_iret dX11_octet_32 rfl rfl
def f_X11_octet_31 (h : aH) : Option (Int32 × aH) :=
  f_X11_octet_32 (-1) h
set_option maxRecDepth 100000 in
set_option maxHeartbeats 4000000 in
theorem t_X11_octet_31 {Γ : gS} {d : Nat} (hd : 0 ≤ d) {h : aH} {r : Int32} {h' : aH} (H : f_X11_octet_31 h = some (r, h')) : Ex Γ gX11_octet d 31 [] [] h (some (.int r)) h' := by
  unfold f_X11_octet_31 at H
  refine x_iconst (v := (-1)) dX11_octet_31 (by decide) ?_
  exact t_X11_octet_32 hd H
def f_X11_octet (x0 : Nat) (x1 : Int32) (h : aH) : Option (Int32 × aH) :=
  if x1 < 0 then
    f_X11_octet_31 h
  else
    ko h x0 10 <|
    kr (hR h x0 8) fun a3 =>
    ko h a3 3 <|
    if (hI h a3 1) ≤ x1 then
      f_X11_octet_31 h
    else
      kr (hR h a3 0) fun a7 =>
      ka h a7 .byte fun n10 =>
      chk (inb x1 n10 = true) <|
      f_X11_octet_32 ((hI h a7 x1.toNatClampNeg) &&& 255) h
set_option maxRecDepth 100000 in
set_option maxHeartbeats 4000000 in
theorem t_X11_octet {Γ : gS} {d : Nat} (hd : 0 ≤ d) {x0 : Nat} {x1 : Int32} {h : aH} {r : Int32} {h' : aH} (H : f_X11_octet x0 x1 h = some (r, h')) : Mx Γ gX11_octet d [.ref x0, .int x1] h (some (.int r)) h' := by
  refine Mx.of (by decide +kernel) (Nat.le_of_ble_eq_true rfl) ?_
  unfold f_X11_octet at H
  show Ex Γ gX11_octet d 0 [(0, .ref x0), (1, .int x1)] [] h (some (.int r)) h'
  refine x_iload_n dX11_octet_0 rfl 1 rfl ?_
  refine x_if_lt (tgt := 31) dX11_octet_1 (by decide) (fun c1 => ?_) (fun c1 => ?_)
  · replace H := ite_p H c1
    refine Ex.sub [] rfl ?_
    exact t_X11_octet_31 hd H
  · replace H := ite_m H c1
    refine x_iload_n dX11_octet_4 rfl 1 rfl ?_
    refine x_aload_n dX11_octet_5 rfl 0 rfl ?_
    obtain ⟨c2, H⟩ := ko_o H
    obtain ⟨a3, c4, H⟩ := kr_o H
    refine x_getR fr_X11_66 dX11_octet_6 c2 rfl c4 ?_
    obtain ⟨c5, H⟩ := ko_o H
    refine x_getI fr_X11_421 dX11_octet_9 c5 rfl ?_
    refine x_icmp_ge (tgt := 31) dX11_octet_12 (by decide) (fun c6 => ?_) (fun c6 => ?_)
    · replace H := ite_p H c6
      refine Ex.sub [] rfl ?_
      exact t_X11_octet_31 hd H
    · replace H := ite_m H c6
      refine x_aload_n dX11_octet_15 rfl 0 rfl ?_
      refine x_getR fr_X11_66 dX11_octet_16 c2 rfl c4 ?_
      obtain ⟨a7, c8, H⟩ := kr_o H
      refine x_getR fr_X11_422 dX11_octet_19 c5 rfl c8 ?_
      refine x_iload_n dX11_octet_22 rfl 1 rfl ?_
      obtain ⟨n10, c9, H⟩ := ka_o H
      obtain ⟨c11, H⟩ := chk_o H
      refine x_bald dX11_octet_23 c9 (inb_in.mp c11) ?_
      refine x_sipush (v := 255) dX11_octet_24 (by decide) ?_
      refine x_iand dX11_octet_27 ?_
      refine x_goto (tgt := 32) dX11_octet_28 (by decide) ?_
      refine Ex.sub [] rfl ?_
      exact t_X11_octet_32 hd H
def f_X11_on_31 (x0 : Nat) (h : aH) : Option (Int32 × aH) :=
  ko h x0 10 <|
  bd (f_X11_deny x0 7 h) fun v1 h2 =>
  chk (narrow .boolean (.int v1) = .int v1) <|
  some (v1, h2)
set_option maxRecDepth 100000 in
set_option maxHeartbeats 4000000 in
theorem t_X11_on_31 {Γ : gS} {d : Nat} (hd : 6 ≤ d) {x0 : Nat} {h : aH} {r : Int32} {h' : aH} (H : f_X11_on_31 x0 h = some (r, h')) : Ex Γ gX11_on d 31 [(0, .ref x0)] [] h (some (.int r)) h' := by
  unfold f_X11_on_31 at H
  obtain ⟨d, rfl⟩ : ∃ e, d = e + 1 := ⟨d - 1, by omega⟩
  refine x_aload_n dX11_on_31 rfl 0 rfl ?_
  refine x_bipush (v := 7) dX11_on_32 (by decide) ?_
  obtain ⟨c5, H⟩ := ko_o H
  obtain ⟨v1, h2, hc3, H⟩ := bd_o H
  refine x_callVi (As := [.int 7]) (q := (RX11, TX11, 17)) dX11_on_34 mi_X11_deny lk_X11_115 im_X11_deny se_X11_deny rfl c5 rfl rfl (Nat.le_of_ble_eq_true rfl) (t_X11_deny (by omega) hc3) ?_
  obtain ⟨c4, H⟩ := chk_o H
  obtain ⟨rfl, rfl⟩ := so_1 H
  exact x_iret dX11_on_37 rfl c4
def f_X11_on (x0 : Nat) (h : aH) : Option (Int32 × aH) :=
  ko h x0 10 <|
  bd (f_X11_takeTape x0 h) fun v6 h7 =>
  ko h7 x0 10 <|
  if (hI h7 x0 12) = 0 then
    f_X11_on_31 x0 h7
  else
    kr (hR h7 x0 0) fun a11 =>
    kr (hR h7 x0 3) fun a13 =>
    kr (hR h7 x0 9) fun a15 =>
    bd (f_X3_read a11 v6 a13 a15 h7) fun v17 h18 =>
    if v17 = 0 then
      f_X11_on_31 x0 h18
    else
      ko h18 x0 10 <|
      kr (hR h18 x0 2) fun a22 =>
      kr (hR h18 x0 3) fun a24 =>
      ko h18 a22 9 <|
      bd (f_X9_become a22 a24 h18) fun _ h27 =>
      ko h27 x0 10 <|
      kr (hR h27 x0 4) fun a30 =>
      ko h27 a30 2 <|
      bd (f_X2_clear a30 h27) fun _ h33 =>
      some (1, h33)
set_option maxRecDepth 100000 in
set_option maxHeartbeats 4000000 in
theorem t_X11_on {Γ : gS} {d : Nat} (hd : 6 ≤ d) {x0 : Nat} {h : aH} {r : Int32} {h' : aH} (H : f_X11_on x0 h = some (r, h')) : Mx Γ gX11_on d [.ref x0] h (some (.int r)) h' := by
  refine Mx.of (by decide +kernel) (Nat.le_of_ble_eq_true rfl) ?_
  unfold f_X11_on at H
  show Ex Γ gX11_on d 0 [(0, .ref x0)] [] h (some (.int r)) h'
  obtain ⟨d, rfl⟩ : ∃ e, d = e + 1 := ⟨d - 1, by omega⟩
  refine x_aload_n dX11_on_0 rfl 0 rfl ?_
  obtain ⟨c37, H⟩ := ko_o H
  obtain ⟨v6, h7, hc8, H⟩ := bd_o H
  refine x_callVi (As := []) (q := (RX11, TX11, 17)) dX11_on_1 mi_X11_takeTape lk_X11_119 im_X11_takeTape se_X11_takeTape rfl c37 rfl rfl (Nat.le_of_ble_eq_true rfl) (t_X11_takeTape (by omega) hc8) ?_
  refine x_istore_n (lv' := [(1, .int v6), (0, .ref x0)]) dX11_on_4 rfl (by decide) rfl rfl ?_
  refine x_aload_n dX11_on_5 rfl 1 rfl ?_
  obtain ⟨c9, H⟩ := ko_o H
  refine x_getI fr_X11_89 dX11_on_6 c9 rfl ?_
  refine x_if_eq (tgt := 31) dX11_on_9 (by decide) (fun c10 => ?_) (fun c10 => ?_)
  · replace H := ite_p H c10
    refine Ex.sub [1] rfl ?_
    exact t_X11_on_31 hd H
  · replace H := ite_m H c10
    refine x_aload_n dX11_on_12 rfl 1 rfl ?_
    obtain ⟨a11, c12, H⟩ := kr_o H
    refine x_getR fr_X11_9 dX11_on_13 c9 rfl c12 ?_
    refine x_iload_n dX11_on_16 rfl 0 rfl ?_
    refine x_aload_n dX11_on_17 rfl 1 rfl ?_
    obtain ⟨a13, c14, H⟩ := kr_o H
    refine x_getR fr_X11_24 dX11_on_18 c9 rfl c14 ?_
    refine x_aload_n dX11_on_21 rfl 1 rfl ?_
    obtain ⟨a15, c16, H⟩ := kr_o H
    refine x_getR fr_X11_73 dX11_on_22 c9 rfl c16 ?_
    obtain ⟨v17, h18, hc19, H⟩ := bd_o H
    refine x_callSi (As := [.ref a11, .int v6, .ref a13, .ref a15]) dX11_on_25 mi_X3_read lk_X11_425 sm_X3_read rfl rfl (Nat.le_of_ble_eq_true rfl) (t_X3_read (by omega) hc19) ?_
    refine x_if_ne (tgt := 38) dX11_on_28 (by decide) (fun c20 => ?_) (fun c20 => ?_)
    · replace H := ite_m H c20
      refine x_aload_n dX11_on_38 rfl 1 rfl ?_
      obtain ⟨c21, H⟩ := ko_o H
      obtain ⟨a22, c23, H⟩ := kr_o H
      refine x_getR fr_X11_20 dX11_on_39 c21 rfl c23 ?_
      refine x_aload_n dX11_on_42 rfl 1 rfl ?_
      obtain ⟨a24, c25, H⟩ := kr_o H
      refine x_getR fr_X11_24 dX11_on_43 c21 rfl c25 ?_
      obtain ⟨c36, H⟩ := ko_o H
      obtain ⟨v26, h27, hc28, H⟩ := bd_o H
      refine x_callVv (As := [.ref a24]) (q := (RX9, TX9, 8)) dX11_on_46 mi_X9_become lk_X11_429 im_X9_become se_X9_become rfl c36 rfl rfl (Nat.le_of_ble_eq_true rfl) (t_X9_become (by omega) hc28) ?_
      refine x_aload_n dX11_on_49 rfl 1 rfl ?_
      obtain ⟨c29, H⟩ := ko_o H
      obtain ⟨a30, c31, H⟩ := kr_o H
      refine x_getR fr_X11_30 dX11_on_50 c29 rfl c31 ?_
      obtain ⟨c35, H⟩ := ko_o H
      obtain ⟨v32, h33, hc34, H⟩ := bd_o H
      refine x_callVv (As := []) (q := (RX2, TX2, 3)) dX11_on_53 mi_X2_clear lk_X11_158 im_X2_clear se_X2_clear rfl c35 rfl rfl (Nat.le_of_ble_eq_true rfl) (t_X2_clear (by omega) hc34) ?_
      refine x_iconst (v := 1) dX11_on_56 (by decide) ?_
      obtain ⟨rfl, rfl⟩ := so_1 H
      exact x_iret dX11_on_57 rfl (by decide)
    · replace H := ite_p H c20
      refine Ex.sub [1] rfl ?_
      exact t_X11_on_31 hd H
def f_X11_status_23 (s0 : Int32) (h : aH) : Option (Int32 × aH) :=
  some (s0, h)
set_option maxRecDepth 100000 in
set_option maxHeartbeats 4000000 in
theorem t_X11_status_23 {Γ : gS} {d : Nat} (hd : 0 ≤ d) {s0 : Int32} {h : aH} {r : Int32} {h' : aH} (H : f_X11_status_23 s0 h = some (r, h')) : Ex Γ gX11_status d 23 [] [.int s0] h (some (.int r)) h' := by
  unfold f_X11_status_23 at H
  obtain ⟨rfl, rfl⟩ := so_1 H
  exact x_iret dX11_status_23 rfl rfl
def f_X11_status_22 (h : aH) : Option (Int32 × aH) :=
  f_X11_status_23 (-1) h
set_option maxRecDepth 100000 in
set_option maxHeartbeats 4000000 in
theorem t_X11_status_22 {Γ : gS} {d : Nat} (hd : 0 ≤ d) {h : aH} {r : Int32} {h' : aH} (H : f_X11_status_22 h = some (r, h')) : Ex Γ gX11_status d 22 [] [] h (some (.int r)) h' := by
  unfold f_X11_status_22 at H
  refine x_iconst (v := (-1)) dX11_status_22 (by decide) ?_
  exact t_X11_status_23 hd H
def f_X11_status (x0 : Nat) (x1 : Int32) (h : aH) : Option (Int32 × aH) :=
  if x1 < 0 then
    f_X11_status_22 h
  else
    ko h x0 10 <|
    kr (hR h x0 1) fun a3 =>
    ka h a3 .int fun n6 =>
    if (Int32.ofNat n6) ≤ x1 then
      f_X11_status_22 h
    else
      chk (inb x1 n6 = true) <|
      f_X11_status_23 (hI h a3 x1.toNatClampNeg) h
set_option maxRecDepth 100000 in
set_option maxHeartbeats 4000000 in
theorem t_X11_status {Γ : gS} {d : Nat} (hd : 0 ≤ d) {x0 : Nat} {x1 : Int32} {h : aH} {r : Int32} {h' : aH} (H : f_X11_status x0 x1 h = some (r, h')) : Mx Γ gX11_status d [.ref x0, .int x1] h (some (.int r)) h' := by
  refine Mx.of (by decide +kernel) (Nat.le_of_ble_eq_true rfl) ?_
  unfold f_X11_status at H
  show Ex Γ gX11_status d 0 [(0, .ref x0), (1, .int x1)] [] h (some (.int r)) h'
  refine x_iload_n dX11_status_0 rfl 1 rfl ?_
  refine x_if_lt (tgt := 22) dX11_status_1 (by decide) (fun c1 => ?_) (fun c1 => ?_)
  · replace H := ite_p H c1
    refine Ex.sub [] rfl ?_
    exact t_X11_status_22 hd H
  · replace H := ite_m H c1
    refine x_iload_n dX11_status_4 rfl 1 rfl ?_
    refine x_aload_n dX11_status_5 rfl 0 rfl ?_
    obtain ⟨c2, H⟩ := ko_o H
    obtain ⟨a3, c4, H⟩ := kr_o H
    refine x_getR fr_X11_13 dX11_status_6 c2 rfl c4 ?_
    obtain ⟨n6, c5, H⟩ := ka_o H
    refine x_alen dX11_status_9 c5 (by decide) ?_
    refine x_icmp_ge (tgt := 22) dX11_status_10 (by decide) (fun c7 => ?_) (fun c7 => ?_)
    · replace H := ite_p H c7
      refine Ex.sub [] rfl ?_
      exact t_X11_status_22 hd H
    · replace H := ite_m H c7
      refine x_aload_n dX11_status_13 rfl 0 rfl ?_
      refine x_getR fr_X11_13 dX11_status_14 c2 rfl c4 ?_
      refine x_iload_n dX11_status_17 rfl 1 rfl ?_
      obtain ⟨c8, H⟩ := chk_o H
      refine x_iald dX11_status_18 c5 (inb_in.mp c8) ?_
      refine x_goto (tgt := 23) dX11_status_19 (by decide) ?_
      refine Ex.sub [] rfl ?_
      exact t_X11_status_23 hd H
