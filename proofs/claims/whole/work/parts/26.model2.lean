def f_X12_frees_94 (k46 : Nat → Int32 → Int32 → Int32 → Int32 → aH → Option (Unit × aH)) (x0 : Nat) (x1 : Int32) (x2 : Int32) (x3 : Int32) (x4 : Int32) (h : aH) : Option (Unit × aH) :=
  nm (x4 + 8) fun (v1 : Int32) =>
  k46 x0 x1 x2 x3 v1 h
set_option maxRecDepth 100000 in
set_option maxHeartbeats 4000000 in
theorem t_X12_frees_94 {Γ : gS} {d : Nat} (hd : 5 ≤ d) {k46 : Nat → Int32 → Int32 → Int32 → Int32 → aH → Option (Unit × aH)} (hk46 : ∀ {x0 : Nat} {x1 : Int32} {x2 : Int32} {x3 : Int32} {x4 : Int32} {h : aH} {r : Unit} {h' : aH}, k46 x0 x1 x2 x3 x4 h = some (r, h') → Ex Γ gX12_frees d 46 [(0, .ref x0), (1, .int x1), (2, .int x2), (3, .int x3), (4, .int x4)] [] h none h') {x0 : Nat} {x1 : Int32} {x2 : Int32} {x3 : Int32} {x4 : Int32} {h : aH} {r : Unit} {h' : aH} (H : f_X12_frees_94 k46 x0 x1 x2 x3 x4 h = some (r, h')) : Ex Γ gX12_frees d 94 [(0, .ref x0), (1, .int x1), (2, .int x2), (3, .int x3), (4, .int x4)] [] h none h' := by
  unfold f_X12_frees_94 at H
  obtain ⟨d, rfl⟩ : ∃ e, d = e + 1 := ⟨d - 1, by omega⟩
  obtain ⟨v1, ev1, H⟩ := nm_o H
  refine x_iinc (v := v1) (lv' := [(4, .int v1), (0, .ref x0), (1, .int x1), (2, .int x2), (3, .int x3)]) dX12_frees_94 4 rfl (by decide) ev1 rfl ?_
  refine x_goto (tgt := 46) dX12_frees_97 (by decide) ?_
  refine Ex.sub [1, 2, 3, 4, 0] rfl ?_
  exact hk46 H
def b_X12_frees_121 (k121 : Nat → Int32 → Int32 → Int32 → aH → Option (Unit × aH)) (x0 : Nat) (x2 : Int32) (x3 : Int32) (x4 : Int32) (h : aH) : Option (Unit × aH) :=
  ko h x0 11 <|
  bd (f_X12_objectMany x0 h) fun v2 h3 =>
  if (257 + (3 * v2)) ≤ x4 then
    ko h3 x0 11 <|
    bd (f_X12_isKept x0 1 x2 x3 h3) fun _ h7 =>
    some ((), h7)
  else
    ko h3 x0 11 <|
    kr (hR h3 x0 47) fun a11 =>
    ka h3 a11 .int fun n14 =>
    chk (inb (x4 + 3) n14 = true) <|
    chk (inb x4 n14 = true) <|
    nm (x4 + 1) fun (v17 : Int32) =>
    k121 x0 x2 x3 v17 (sI h3 a11 x4.toNatClampNeg (hI h3 a11 (x4 + 3 : Int32).toNatClampNeg))
set_option maxRecDepth 100000 in
set_option maxHeartbeats 4000000 in
theorem tb_X12_frees_121 {Γ : gS} {d : Nat} (hd : 5 ≤ d) {k121 : Nat → Int32 → Int32 → Int32 → aH → Option (Unit × aH)} (hk121 : ∀ {x0 : Nat} {x2 : Int32} {x3 : Int32} {x4 : Int32} {h : aH} {r : Unit} {h' : aH}, k121 x0 x2 x3 x4 h = some (r, h') → Ex Γ gX12_frees d 121 [(0, .ref x0), (2, .int x2), (3, .int x3), (4, .int x4)] [] h none h') {x0 : Nat} {x2 : Int32} {x3 : Int32} {x4 : Int32} {h : aH} {r : Unit} {h' : aH} (H : b_X12_frees_121 k121 x0 x2 x3 x4 h = some (r, h')) : Ex Γ gX12_frees d 121 [(0, .ref x0), (2, .int x2), (3, .int x3), (4, .int x4)] [] h none h' := by
  unfold b_X12_frees_121 at H
  obtain ⟨d, rfl⟩ : ∃ e, d = e + 1 := ⟨d - 1, by omega⟩
  refine x_iload dX12_frees_121 3 rfl ?_
  refine x_sipush (v := 257) dX12_frees_123 (by decide) ?_
  refine x_iconst (v := 3) dX12_frees_126 (by decide) ?_
  refine x_aload_n dX12_frees_127 rfl 0 rfl ?_
  obtain ⟨c18, H⟩ := ko_o H
  obtain ⟨v2, h3, hc4, H⟩ := bd_o H
  refine x_callVi (As := []) (q := (RX12, TX12, 103)) dX12_frees_128 mi_X12_objectMany lk_X12_425 im_X12_objectMany se_X12_objectMany rfl c18 rfl rfl (Nat.le_of_ble_eq_true rfl) (t_X12_objectMany (by omega) hc4) ?_
  refine x_imul dX12_frees_131 ?_
  refine x_iadd dX12_frees_132 ?_
  refine x_icmp_ge (tgt := 158) dX12_frees_133 (by decide) (fun c5 => ?_) (fun c5 => ?_)
  · replace H := ite_p H c5
    refine x_aload_n dX12_frees_158 rfl 0 rfl ?_
    refine x_iconst (v := 1) dX12_frees_159 (by decide) ?_
    refine x_iload_n dX12_frees_160 rfl 1 rfl ?_
    refine x_iload_n dX12_frees_161 rfl 2 rfl ?_
    obtain ⟨c9, H⟩ := ko_o H
    obtain ⟨v6, h7, hc8, H⟩ := bd_o H
    refine x_callVv (As := [.int 1, .int x2, .int x3]) (q := (RX12, TX12, 103)) dX12_frees_162 mi_X12_isKept lk_X12_457 im_X12_isKept se_X12_isKept rfl c9 rfl rfl (Nat.le_of_ble_eq_true rfl) (t_X12_isKept (by omega) hc8) ?_
    obtain ⟨-, rfl⟩ := so_1 H
    exact x_vret dX12_frees_165 rfl
  · replace H := ite_m H c5
    refine x_aload_n dX12_frees_136 rfl 0 rfl ?_
    obtain ⟨c10, H⟩ := ko_o H
    obtain ⟨a11, c12, H⟩ := kr_o H
    refine x_getR fr_X12_115 dX12_frees_137 c10 rfl c12 ?_
    refine x_iload dX12_frees_140 3 rfl ?_
    refine x_aload_n dX12_frees_142 rfl 0 rfl ?_
    refine x_getR fr_X12_115 dX12_frees_143 c10 rfl c12 ?_
    refine x_iload dX12_frees_146 3 rfl ?_
    refine x_iconst (v := 3) dX12_frees_148 (by decide) ?_
    refine x_iadd dX12_frees_149 ?_
    obtain ⟨n14, c13, H⟩ := ka_o H
    obtain ⟨c15, H⟩ := chk_o H
    refine x_iald dX12_frees_150 c13 (inb_in.mp c15) ?_
    obtain ⟨c16, H⟩ := chk_o H
    refine x_iast dX12_frees_151 c13 (inb_in.mp c16) ?_
    obtain ⟨v17, ev17, H⟩ := nm_o H
    refine x_iinc (v := v17) (lv' := [(4, .int v17), (0, .ref x0), (2, .int x2), (3, .int x3)]) dX12_frees_152 3 rfl (by decide) ev17 rfl ?_
    refine x_goto (tgt := 121) dX12_frees_155 (by decide) ?_
    refine Ex.sub [1, 2, 3, 0] rfl ?_
    exact hk121 H
def f_X12_frees_121 : Nat → Nat → Int32 → Int32 → Int32 → aH → Option (Unit × aH)
  | 0 => fun _ _ _ _ _ => none
  | n + 1 => b_X12_frees_121 (f_X12_frees_121 n)
set_option maxRecDepth 100000 in
set_option maxHeartbeats 4000000 in
theorem t_X12_frees_121 {Γ : gS} {d : Nat} (hd : 5 ≤ d) (n : Nat) : ∀ {x0 : Nat} {x2 : Int32} {x3 : Int32} {x4 : Int32} {h : aH} {r : Unit} {h' : aH}, f_X12_frees_121 n x0 x2 x3 x4 h = some (r, h') → Ex Γ gX12_frees d 121 [(0, .ref x0), (2, .int x2), (3, .int x3), (4, .int x4)] [] h none h' := by
  induction n with
  | zero => intro x0 x2 x3 x4 h r h' H; cases H
  | succ n ih => intro x0 x2 x3 x4 h r h' H; exact tb_X12_frees_121 hd ih H
def b_X12_frees_46 (k46 : Nat → Int32 → Int32 → Int32 → Int32 → aH → Option (Unit × aH)) (x0 : Nat) (x1 : Int32) (x2 : Int32) (x3 : Int32) (x4 : Int32) (h : aH) : Option (Unit × aH) :=
  if 256 ≤ x4 then
    ko h x0 11 <|
    kr (hR h x0 47) fun a21 =>
    ka h a21 .int fun n24 =>
    chk (inb 256 n24 = true) <|
    nm (257 + (3 * x1)) fun (v26 : Int32) =>
    f_X12_frees_121 FU x0 x2 x3 v26 (sI h a21 (256 : Int32).toNatClampNeg ((hI h a21 (256 : Int32).toNatClampNeg) - 1))
  else
    ko h x0 11 <|
    kr (hR h x0 47) fun a28 =>
    ka h a28 .int fun n31 =>
    chk (inb x4 n31 = true) <|
    if (hI h a28 x4.toNatClampNeg) = 1 then
      bd (f_X12_baseOf x0 x4 h) fun v34 h35 =>
      bd (f_X12_isIn v34.toInt64 x2.toInt64 (((x2 + x3) - 1 : Int32).toInt64) h35) fun v37 h38 =>
      if v37 = 0 then
        f_X12_frees_94 k46 x0 x1 x2 x3 x4 h38
      else
        ko h38 x0 11 <|
        kr (hR h38 x0 47) fun a42 =>
        ka h38 a42 .int fun n45 =>
        chk (inb x4 n45 = true) <|
        f_X12_frees_94 k46 x0 x1 x2 x3 x4 (sI h38 a42 x4.toNatClampNeg 0)
    else
      f_X12_frees_94 k46 x0 x1 x2 x3 x4 h
set_option maxRecDepth 100000 in
set_option maxHeartbeats 4000000 in
theorem tb_X12_frees_46 {Γ : gS} {d : Nat} (hd : 5 ≤ d) {k46 : Nat → Int32 → Int32 → Int32 → Int32 → aH → Option (Unit × aH)} (hk46 : ∀ {x0 : Nat} {x1 : Int32} {x2 : Int32} {x3 : Int32} {x4 : Int32} {h : aH} {r : Unit} {h' : aH}, k46 x0 x1 x2 x3 x4 h = some (r, h') → Ex Γ gX12_frees d 46 [(0, .ref x0), (1, .int x1), (2, .int x2), (3, .int x3), (4, .int x4)] [] h none h') {x0 : Nat} {x1 : Int32} {x2 : Int32} {x3 : Int32} {x4 : Int32} {h : aH} {r : Unit} {h' : aH} (H : b_X12_frees_46 k46 x0 x1 x2 x3 x4 h = some (r, h')) : Ex Γ gX12_frees d 46 [(0, .ref x0), (1, .int x1), (2, .int x2), (3, .int x3), (4, .int x4)] [] h none h' := by
  unfold b_X12_frees_46 at H
  obtain ⟨d, rfl⟩ : ∃ e, d = e + 1 := ⟨d - 1, by omega⟩
  refine x_iload dX12_frees_46 4 rfl ?_
  refine x_sipush (v := 256) dX12_frees_48 (by decide) ?_
  refine x_icmp_ge (tgt := 100) dX12_frees_51 (by decide) (fun c19 => ?_) (fun c19 => ?_)
  · replace H := ite_p H c19
    refine x_aload_n dX12_frees_100 rfl 0 rfl ?_
    obtain ⟨c20, H⟩ := ko_o H
    obtain ⟨a21, c22, H⟩ := kr_o H
    refine x_getR fr_X12_115 dX12_frees_101 c20 rfl c22 ?_
    refine x_sipush (v := 256) dX12_frees_104 (by decide) ?_
    refine x_dup2 dX12_frees_107 rfl rfl ?_
    obtain ⟨n24, c23, H⟩ := ka_o H
    obtain ⟨c25, H⟩ := chk_o H
    refine x_iald dX12_frees_108 c23 (inb_in.mp c25) ?_
    refine x_iconst (v := 1) dX12_frees_109 (by decide) ?_
    refine x_isub dX12_frees_110 ?_
    refine x_iast dX12_frees_111 c23 (inb_in.mp c25) ?_
    refine x_sipush (v := 257) dX12_frees_112 (by decide) ?_
    refine x_iconst (v := 3) dX12_frees_115 (by decide) ?_
    refine x_iload_n dX12_frees_116 rfl 1 rfl ?_
    refine x_imul dX12_frees_117 ?_
    refine x_iadd dX12_frees_118 ?_
    obtain ⟨v26, ev26, H⟩ := nm_o H
    refine x_istore (lv' := [(4, .int v26), (0, .ref x0), (1, .int x1), (2, .int x2), (3, .int x3)]) dX12_frees_119 (by decide) ev26 rfl ?_
    refine Ex.sub [1, 3, 4, 0] rfl ?_
    exact t_X12_frees_121 hd FU H
  · replace H := ite_m H c19
    refine x_aload_n dX12_frees_54 rfl 0 rfl ?_
    obtain ⟨c27, H⟩ := ko_o H
    obtain ⟨a28, c29, H⟩ := kr_o H
    refine x_getR fr_X12_115 dX12_frees_55 c27 rfl c29 ?_
    refine x_iload dX12_frees_58 4 rfl ?_
    obtain ⟨n31, c30, H⟩ := ka_o H
    obtain ⟨c32, H⟩ := chk_o H
    refine x_iald dX12_frees_60 c30 (inb_in.mp c32) ?_
    refine x_iconst (v := 1) dX12_frees_61 (by decide) ?_
    refine x_icmp_ne (tgt := 94) dX12_frees_62 (by decide) (fun c33 => ?_) (fun c33 => ?_)
    · replace H := ite_m H c33
      exact t_X12_frees_94 hd hk46 H
    · replace H := ite_p H c33
      refine x_aload_n dX12_frees_65 rfl 0 rfl ?_
      refine x_iload dX12_frees_66 4 rfl ?_
      obtain ⟨v34, h35, hc36, H⟩ := bd_o H
      refine x_callVi (As := [.int x4]) (q := (RX12, TX12, 103)) dX12_frees_68 mi_X12_baseOf lk_X12_412 im_X12_baseOf se_X12_baseOf rfl c27 rfl rfl (Nat.le_of_ble_eq_true rfl) (t_X12_baseOf (by omega) hc36) ?_
      refine x_i2l dX12_frees_71 ?_
      refine x_iload_n dX12_frees_72 rfl 2 rfl ?_
      refine x_i2l dX12_frees_73 ?_
      refine x_iload_n dX12_frees_74 rfl 2 rfl ?_
      refine x_iload_n dX12_frees_75 rfl 3 rfl ?_
      refine x_iadd dX12_frees_76 ?_
      refine x_iconst (v := 1) dX12_frees_77 (by decide) ?_
      refine x_isub dX12_frees_78 ?_
      refine x_i2l dX12_frees_79 ?_
      obtain ⟨v37, h38, hc39, H⟩ := bd_o H
      refine x_callSi (As := [.long v34.toInt64, .long x2.toInt64, .long (((x2 + x3) - 1 : Int32).toInt64)]) dX12_frees_80 mi_X12_isIn lk_X12_268 sm_X12_isIn rfl rfl (Nat.le_of_ble_eq_true rfl) (t_X12_isIn (by omega) hc39) ?_
      refine x_if_eq (tgt := 94) dX12_frees_83 (by decide) (fun c40 => ?_) (fun c40 => ?_)
      · replace H := ite_p H c40
        exact t_X12_frees_94 hd hk46 H
      · replace H := ite_m H c40
        refine x_aload_n dX12_frees_86 rfl 0 rfl ?_
        obtain ⟨c41, H⟩ := ko_o H
        obtain ⟨a42, c43, H⟩ := kr_o H
        refine x_getR fr_X12_115 dX12_frees_87 c41 rfl c43 ?_
        refine x_iload dX12_frees_90 4 rfl ?_
        refine x_iconst (v := 0) dX12_frees_92 (by decide) ?_
        obtain ⟨n45, c44, H⟩ := ka_o H
        obtain ⟨c46, H⟩ := chk_o H
        refine x_iast dX12_frees_93 c44 (inb_in.mp c46) ?_
        exact t_X12_frees_94 hd hk46 H
def f_X12_frees_46 : Nat → Nat → Int32 → Int32 → Int32 → Int32 → aH → Option (Unit × aH)
  | 0 => fun _ _ _ _ _ _ => none
  | n + 1 => b_X12_frees_46 (f_X12_frees_46 n)
set_option maxRecDepth 100000 in
set_option maxHeartbeats 4000000 in
theorem t_X12_frees_46 {Γ : gS} {d : Nat} (hd : 5 ≤ d) (n : Nat) : ∀ {x0 : Nat} {x1 : Int32} {x2 : Int32} {x3 : Int32} {x4 : Int32} {h : aH} {r : Unit} {h' : aH}, f_X12_frees_46 n x0 x1 x2 x3 x4 h = some (r, h') → Ex Γ gX12_frees d 46 [(0, .ref x0), (1, .int x1), (2, .int x2), (3, .int x3), (4, .int x4)] [] h none h' := by
  induction n with
  | zero => intro x0 x1 x2 x3 x4 h r h' H; cases H
  | succ n ih => intro x0 x1 x2 x3 x4 h r h' H; exact tb_X12_frees_46 hd ih H
def b_X12_frees_17 (k17 : Nat → Int32 → Int32 → Int32 → Int32 → aH → Option (Unit × aH)) (x0 : Nat) (x1 : Int32) (x2 : Int32) (x3 : Int32) (x4 : Int32) (h : aH) : Option (Unit × aH) :=
  if x3 ≤ x4 then
    f_X12_frees_46 FU x0 x1 x2 x3 0 h
  else
    ko h x0 11 <|
    kr (hR h x0 47) fun a49 =>
    ka h a49 .int fun n52 =>
    chk (inb ((353 + x2) + x4) n52 = true) <|
    nm (x4 + 1) fun (v54 : Int32) =>
    k17 x0 x1 x2 x3 v54 (sI h a49 ((353 + x2) + x4 : Int32).toNatClampNeg 0)
set_option maxRecDepth 100000 in
set_option maxHeartbeats 4000000 in
theorem tb_X12_frees_17 {Γ : gS} {d : Nat} (hd : 5 ≤ d) {k17 : Nat → Int32 → Int32 → Int32 → Int32 → aH → Option (Unit × aH)} (hk17 : ∀ {x0 : Nat} {x1 : Int32} {x2 : Int32} {x3 : Int32} {x4 : Int32} {h : aH} {r : Unit} {h' : aH}, k17 x0 x1 x2 x3 x4 h = some (r, h') → Ex Γ gX12_frees d 17 [(0, .ref x0), (1, .int x1), (2, .int x2), (3, .int x3), (4, .int x4)] [] h none h') {x0 : Nat} {x1 : Int32} {x2 : Int32} {x3 : Int32} {x4 : Int32} {h : aH} {r : Unit} {h' : aH} (H : b_X12_frees_17 k17 x0 x1 x2 x3 x4 h = some (r, h')) : Ex Γ gX12_frees d 17 [(0, .ref x0), (1, .int x1), (2, .int x2), (3, .int x3), (4, .int x4)] [] h none h' := by
  unfold b_X12_frees_17 at H
  obtain ⟨d, rfl⟩ : ∃ e, d = e + 1 := ⟨d - 1, by omega⟩
  refine x_iload dX12_frees_17 4 rfl ?_
  refine x_iload_n dX12_frees_19 rfl 3 rfl ?_
  refine x_icmp_ge (tgt := 43) dX12_frees_20 (by decide) (fun c47 => ?_) (fun c47 => ?_)
  · replace H := ite_p H c47
    refine x_iconst (v := 0) dX12_frees_43 (by decide) ?_
    refine x_istore (lv' := [(4, .int 0), (0, .ref x0), (1, .int x1), (2, .int x2), (3, .int x3)]) dX12_frees_44 (by decide) rfl rfl ?_
    refine Ex.sub [1, 2, 3, 4, 0] rfl ?_
    exact t_X12_frees_46 hd FU H
  · replace H := ite_m H c47
    refine x_aload_n dX12_frees_23 rfl 0 rfl ?_
    obtain ⟨c48, H⟩ := ko_o H
    obtain ⟨a49, c50, H⟩ := kr_o H
    refine x_getR fr_X12_115 dX12_frees_24 c48 rfl c50 ?_
    refine x_sipush (v := 353) dX12_frees_27 (by decide) ?_
    refine x_iload_n dX12_frees_30 rfl 2 rfl ?_
    refine x_iadd dX12_frees_31 ?_
    refine x_iload dX12_frees_32 4 rfl ?_
    refine x_iadd dX12_frees_34 ?_
    refine x_iconst (v := 0) dX12_frees_35 (by decide) ?_
    obtain ⟨n52, c51, H⟩ := ka_o H
    obtain ⟨c53, H⟩ := chk_o H
    refine x_iast dX12_frees_36 c51 (inb_in.mp c53) ?_
    obtain ⟨v54, ev54, H⟩ := nm_o H
    refine x_iinc (v := v54) (lv' := [(4, .int v54), (0, .ref x0), (1, .int x1), (2, .int x2), (3, .int x3)]) dX12_frees_37 4 rfl (by decide) ev54 rfl ?_
    refine x_goto (tgt := 17) dX12_frees_40 (by decide) ?_
    refine Ex.sub [1, 2, 3, 4, 0] rfl ?_
    exact hk17 H
def f_X12_frees_17 : Nat → Nat → Int32 → Int32 → Int32 → Int32 → aH → Option (Unit × aH)
  | 0 => fun _ _ _ _ _ _ => none
  | n + 1 => b_X12_frees_17 (f_X12_frees_17 n)
set_option maxRecDepth 100000 in
set_option maxHeartbeats 4000000 in
theorem t_X12_frees_17 {Γ : gS} {d : Nat} (hd : 5 ≤ d) (n : Nat) : ∀ {x0 : Nat} {x1 : Int32} {x2 : Int32} {x3 : Int32} {x4 : Int32} {h : aH} {r : Unit} {h' : aH}, f_X12_frees_17 n x0 x1 x2 x3 x4 h = some (r, h') → Ex Γ gX12_frees d 17 [(0, .ref x0), (1, .int x1), (2, .int x2), (3, .int x3), (4, .int x4)] [] h none h' := by
  induction n with
  | zero => intro x0 x1 x2 x3 x4 h r h' H; cases H
  | succ n ih => intro x0 x1 x2 x3 x4 h r h' H; exact tb_X12_frees_17 hd ih H
def f_X12_frees (x0 : Nat) (x1 : Int32) (h : aH) : Option (Unit × aH) :=
  ko h x0 11 <|
  bd (f_X12_objectOf x0 x1 0 h) fun v55 h56 =>
  ko h56 x0 11 <|
  bd (f_X12_objectOf x0 x1 1 h56) fun v58 h59 =>
  f_X12_frees_17 FU x0 x1 v55 v58 0 h59
set_option maxRecDepth 100000 in
set_option maxHeartbeats 4000000 in
theorem t_X12_frees {Γ : gS} {d : Nat} (hd : 5 ≤ d) {x0 : Nat} {x1 : Int32} {h : aH} {r : Unit} {h' : aH} (H : f_X12_frees x0 x1 h = some (r, h')) : Mx Γ gX12_frees d [.ref x0, .int x1] h none h' := by
  refine Mx.of (by decide +kernel) (Nat.le_of_ble_eq_true rfl) ?_
  unfold f_X12_frees at H
  show Ex Γ gX12_frees d 0 [(0, .ref x0), (1, .int x1)] [] h none h'
  obtain ⟨d, rfl⟩ : ∃ e, d = e + 1 := ⟨d - 1, by omega⟩
  refine x_aload_n dX12_frees_0 rfl 0 rfl ?_
  refine x_iload_n dX12_frees_1 rfl 1 rfl ?_
  refine x_iconst (v := 0) dX12_frees_2 (by decide) ?_
  obtain ⟨c62, H⟩ := ko_o H
  obtain ⟨v55, h56, hc57, H⟩ := bd_o H
  refine x_callVi (As := [.int x1, .int 0]) (q := (RX12, TX12, 103)) dX12_frees_3 mi_X12_objectOf lk_X12_428 im_X12_objectOf se_X12_objectOf rfl c62 rfl rfl (Nat.le_of_ble_eq_true rfl) (t_X12_objectOf (by omega) hc57) ?_
  refine x_istore_n (lv' := [(2, .int v55), (0, .ref x0), (1, .int x1)]) dX12_frees_6 rfl (by decide) rfl rfl ?_
  refine x_aload_n dX12_frees_7 rfl 1 rfl ?_
  refine x_iload_n dX12_frees_8 rfl 2 rfl ?_
  refine x_iconst (v := 1) dX12_frees_9 (by decide) ?_
  obtain ⟨c61, H⟩ := ko_o H
  obtain ⟨v58, h59, hc60, H⟩ := bd_o H
  refine x_callVi (As := [.int x1, .int 1]) (q := (RX12, TX12, 103)) dX12_frees_10 mi_X12_objectOf lk_X12_428 im_X12_objectOf se_X12_objectOf rfl c61 rfl rfl (Nat.le_of_ble_eq_true rfl) (t_X12_objectOf (by omega) hc60) ?_
  refine x_istore_n (lv' := [(3, .int v58), (2, .int v55), (0, .ref x0), (1, .int x1)]) dX12_frees_13 rfl (by decide) rfl rfl ?_
  refine x_iconst (v := 0) dX12_frees_14 (by decide) ?_
  refine x_istore (lv' := [(4, .int 0), (3, .int v58), (2, .int v55), (0, .ref x0), (1, .int x1)]) dX12_frees_15 (by decide) rfl rfl ?_
  refine Ex.sub [3, 4, 2, 1, 0] rfl ?_
  exact t_X12_frees_17 hd FU H
def f_X12_validMany_26 (k4 : Nat → Int32 → Int32 → aH → Option (Int32 × aH)) (x0 : Nat) (x1 : Int32) (x2 : Int32) (h : aH) : Option (Int32 × aH) :=
  nm (x2 + 1) fun (v1 : Int32) =>
  k4 x0 x1 v1 h
set_option maxRecDepth 100000 in
set_option maxHeartbeats 4000000 in
theorem t_X12_validMany_26 {Γ : gS} {d : Nat} (hd : 0 ≤ d) {k4 : Nat → Int32 → Int32 → aH → Option (Int32 × aH)} (hk4 : ∀ {x0 : Nat} {x1 : Int32} {x2 : Int32} {h : aH} {r : Int32} {h' : aH}, k4 x0 x1 x2 h = some (r, h') → Ex Γ gX12_validMany d 4 [(0, .ref x0), (1, .int x1), (2, .int x2)] [] h (some (.int r)) h') {x0 : Nat} {x1 : Int32} {x2 : Int32} {h : aH} {r : Int32} {h' : aH} (H : f_X12_validMany_26 k4 x0 x1 x2 h = some (r, h')) : Ex Γ gX12_validMany d 26 [(0, .ref x0), (1, .int x1), (2, .int x2)] [] h (some (.int r)) h' := by
  unfold f_X12_validMany_26 at H
  obtain ⟨v1, ev1, H⟩ := nm_o H
  refine x_iinc (v := v1) (lv' := [(2, .int v1), (0, .ref x0), (1, .int x1)]) dX12_validMany_26 2 rfl (by decide) ev1 rfl ?_
  refine x_goto (tgt := 4) dX12_validMany_29 (by decide) ?_
  refine Ex.sub [1, 2, 0] rfl ?_
  exact hk4 H
def b_X12_validMany_4 (k4 : Nat → Int32 → Int32 → aH → Option (Int32 × aH)) (x0 : Nat) (x1 : Int32) (x2 : Int32) (h : aH) : Option (Int32 × aH) :=
  if 16 ≤ x2 then
    some (x1, h)
  else
    ko h x0 11 <|
    kr (hR h x0 47) fun a4 =>
    ka h a4 .int fun n7 =>
    chk (inb (8 * x2) n7 = true) <|
    if (hI h a4 (8 * x2 : Int32).toNatClampNeg) = 1 then
      nm (x1 + 1) fun (v10 : Int32) =>
      f_X12_validMany_26 k4 x0 v10 x2 h
    else
      f_X12_validMany_26 k4 x0 x1 x2 h
set_option maxRecDepth 100000 in
set_option maxHeartbeats 4000000 in
theorem tb_X12_validMany_4 {Γ : gS} {d : Nat} (hd : 0 ≤ d) {k4 : Nat → Int32 → Int32 → aH → Option (Int32 × aH)} (hk4 : ∀ {x0 : Nat} {x1 : Int32} {x2 : Int32} {h : aH} {r : Int32} {h' : aH}, k4 x0 x1 x2 h = some (r, h') → Ex Γ gX12_validMany d 4 [(0, .ref x0), (1, .int x1), (2, .int x2)] [] h (some (.int r)) h') {x0 : Nat} {x1 : Int32} {x2 : Int32} {h : aH} {r : Int32} {h' : aH} (H : b_X12_validMany_4 k4 x0 x1 x2 h = some (r, h')) : Ex Γ gX12_validMany d 4 [(0, .ref x0), (1, .int x1), (2, .int x2)] [] h (some (.int r)) h' := by
  unfold b_X12_validMany_4 at H
  refine x_iload_n dX12_validMany_4 rfl 2 rfl ?_
  refine x_bipush (v := 16) dX12_validMany_5 (by decide) ?_
  refine x_icmp_ge (tgt := 32) dX12_validMany_7 (by decide) (fun c2 => ?_) (fun c2 => ?_)
  · replace H := ite_p H c2
    refine x_iload_n dX12_validMany_32 rfl 1 rfl ?_
    obtain ⟨rfl, rfl⟩ := so_1 H
    exact x_iret dX12_validMany_33 rfl rfl
  · replace H := ite_m H c2
    refine x_aload_n dX12_validMany_10 rfl 0 rfl ?_
    obtain ⟨c3, H⟩ := ko_o H
    obtain ⟨a4, c5, H⟩ := kr_o H
    refine x_getR fr_X12_115 dX12_validMany_11 c3 rfl c5 ?_
    refine x_bipush (v := 8) dX12_validMany_14 (by decide) ?_
    refine x_iload_n dX12_validMany_16 rfl 2 rfl ?_
    refine x_imul dX12_validMany_17 ?_
    obtain ⟨n7, c6, H⟩ := ka_o H
    obtain ⟨c8, H⟩ := chk_o H
    refine x_iald dX12_validMany_18 c6 (inb_in.mp c8) ?_
    refine x_iconst (v := 1) dX12_validMany_19 (by decide) ?_
    refine x_icmp_ne (tgt := 26) dX12_validMany_20 (by decide) (fun c9 => ?_) (fun c9 => ?_)
    · replace H := ite_m H c9
      exact t_X12_validMany_26 hd hk4 H
    · replace H := ite_p H c9
      obtain ⟨v10, ev10, H⟩ := nm_o H
      refine x_iinc (v := v10) (lv' := [(1, .int v10), (0, .ref x0), (2, .int x2)]) dX12_validMany_23 1 rfl (by decide) ev10 rfl ?_
      refine Ex.sub [1, 0, 2] rfl ?_
      exact t_X12_validMany_26 hd hk4 H
def f_X12_validMany_4 : Nat → Nat → Int32 → Int32 → aH → Option (Int32 × aH)
  | 0 => fun _ _ _ _ => none
  | n + 1 => b_X12_validMany_4 (f_X12_validMany_4 n)
set_option maxRecDepth 100000 in
set_option maxHeartbeats 4000000 in
theorem t_X12_validMany_4 {Γ : gS} {d : Nat} (hd : 0 ≤ d) (n : Nat) : ∀ {x0 : Nat} {x1 : Int32} {x2 : Int32} {h : aH} {r : Int32} {h' : aH}, f_X12_validMany_4 n x0 x1 x2 h = some (r, h') → Ex Γ gX12_validMany d 4 [(0, .ref x0), (1, .int x1), (2, .int x2)] [] h (some (.int r)) h' := by
  induction n with
  | zero => intro x0 x1 x2 h r h' H; cases H
  | succ n ih => intro x0 x1 x2 h r h' H; exact tb_X12_validMany_4 hd ih H
def f_X12_validMany (x0 : Nat) (h : aH) : Option (Int32 × aH) :=
  f_X12_validMany_4 FU x0 0 0 h
set_option maxRecDepth 100000 in
set_option maxHeartbeats 4000000 in
theorem t_X12_validMany {Γ : gS} {d : Nat} (hd : 0 ≤ d) {x0 : Nat} {h : aH} {r : Int32} {h' : aH} (H : f_X12_validMany x0 h = some (r, h')) : Mx Γ gX12_validMany d [.ref x0] h (some (.int r)) h' := by
  refine Mx.of (by decide +kernel) (Nat.le_of_ble_eq_true rfl) ?_
  unfold f_X12_validMany at H
  show Ex Γ gX12_validMany d 0 [(0, .ref x0)] [] h (some (.int r)) h'
  refine x_iconst (v := 0) dX12_validMany_0 (by decide) ?_
  refine x_istore_n (lv' := [(1, .int 0), (0, .ref x0)]) dX12_validMany_1 rfl (by decide) rfl rfl ?_
  refine x_iconst (v := 0) dX12_validMany_2 (by decide) ?_
  refine x_istore_n (lv' := [(2, .int 0), (1, .int 0), (0, .ref x0)]) dX12_validMany_3 rfl (by decide) rfl rfl ?_
  refine Ex.sub [2, 1, 0] rfl ?_
  exact t_X12_validMany_4 hd FU H
def b_X12_objectBytes_4 (k4 : Nat → Int32 → Int32 → Int32 → aH → Option (Int32 × aH)) (x0 : Nat) (x1 : Int32) (x2 : Int32) (x3 : Int32) (h : aH) : Option (Int32 × aH) :=
  ko h x0 11 <|
  bd (f_X12_objectMany x0 h) fun v1 h2 =>
  if v1 ≤ x3 then
    some (x2, h2)
  else
    ko h2 x0 11 <|
    bd (f_X12_objectOf x0 x3 x1 h2) fun v5 h6 =>
    nm (x2 + v5) fun (v8 : Int32) =>
    nm (x3 + 1) fun (v9 : Int32) =>
    k4 x0 x1 v8 v9 h6
set_option maxRecDepth 100000 in
set_option maxHeartbeats 4000000 in
theorem tb_X12_objectBytes_4 {Γ : gS} {d : Nat} (hd : 1 ≤ d) {k4 : Nat → Int32 → Int32 → Int32 → aH → Option (Int32 × aH)} (hk4 : ∀ {x0 : Nat} {x1 : Int32} {x2 : Int32} {x3 : Int32} {h : aH} {r : Int32} {h' : aH}, k4 x0 x1 x2 x3 h = some (r, h') → Ex Γ gX12_objectBytes d 4 [(0, .ref x0), (1, .int x1), (2, .int x2), (3, .int x3)] [] h (some (.int r)) h') {x0 : Nat} {x1 : Int32} {x2 : Int32} {x3 : Int32} {h : aH} {r : Int32} {h' : aH} (H : b_X12_objectBytes_4 k4 x0 x1 x2 x3 h = some (r, h')) : Ex Γ gX12_objectBytes d 4 [(0, .ref x0), (1, .int x1), (2, .int x2), (3, .int x3)] [] h (some (.int r)) h' := by
  unfold b_X12_objectBytes_4 at H
  obtain ⟨d, rfl⟩ : ∃ e, d = e + 1 := ⟨d - 1, by omega⟩
  refine x_iload_n dX12_objectBytes_4 rfl 3 rfl ?_
  refine x_aload_n dX12_objectBytes_5 rfl 0 rfl ?_
  obtain ⟨c11, H⟩ := ko_o H
  obtain ⟨v1, h2, hc3, H⟩ := bd_o H
  refine x_callVi (As := []) (q := (RX12, TX12, 103)) dX12_objectBytes_6 mi_X12_objectMany lk_X12_425 im_X12_objectMany se_X12_objectMany rfl c11 rfl rfl (Nat.le_of_ble_eq_true rfl) (t_X12_objectMany (by omega) hc3) ?_
  refine x_icmp_ge (tgt := 27) dX12_objectBytes_9 (by decide) (fun c4 => ?_) (fun c4 => ?_)
  · replace H := ite_p H c4
    refine x_iload_n dX12_objectBytes_27 rfl 2 rfl ?_
    obtain ⟨rfl, rfl⟩ := so_1 H
    exact x_iret dX12_objectBytes_28 rfl rfl
  · replace H := ite_m H c4
    refine x_iload_n dX12_objectBytes_12 rfl 2 rfl ?_
    refine x_aload_n dX12_objectBytes_13 rfl 0 rfl ?_
    refine x_iload_n dX12_objectBytes_14 rfl 3 rfl ?_
    refine x_iload_n dX12_objectBytes_15 rfl 1 rfl ?_
    obtain ⟨c10, H⟩ := ko_o H
    obtain ⟨v5, h6, hc7, H⟩ := bd_o H
    refine x_callVi (As := [.int x3, .int x1]) (q := (RX12, TX12, 103)) dX12_objectBytes_16 mi_X12_objectOf lk_X12_428 im_X12_objectOf se_X12_objectOf rfl c10 rfl rfl (Nat.le_of_ble_eq_true rfl) (t_X12_objectOf (by omega) hc7) ?_
    refine x_iadd dX12_objectBytes_19 ?_
    obtain ⟨v8, ev8, H⟩ := nm_o H
    refine x_istore_n (lv' := [(2, .int v8), (0, .ref x0), (1, .int x1), (3, .int x3)]) dX12_objectBytes_20 rfl (by decide) ev8 rfl ?_
    obtain ⟨v9, ev9, H⟩ := nm_o H
    refine x_iinc (v := v9) (lv' := [(3, .int v9), (2, .int v8), (0, .ref x0), (1, .int x1)]) dX12_objectBytes_21 3 rfl (by decide) ev9 rfl ?_
    refine x_goto (tgt := 4) dX12_objectBytes_24 (by decide) ?_
    refine Ex.sub [2, 3, 1, 0] rfl ?_
    exact hk4 H
def f_X12_objectBytes_4 : Nat → Nat → Int32 → Int32 → Int32 → aH → Option (Int32 × aH)
  | 0 => fun _ _ _ _ _ => none
  | n + 1 => b_X12_objectBytes_4 (f_X12_objectBytes_4 n)
set_option maxRecDepth 100000 in
set_option maxHeartbeats 4000000 in
theorem t_X12_objectBytes_4 {Γ : gS} {d : Nat} (hd : 1 ≤ d) (n : Nat) : ∀ {x0 : Nat} {x1 : Int32} {x2 : Int32} {x3 : Int32} {h : aH} {r : Int32} {h' : aH}, f_X12_objectBytes_4 n x0 x1 x2 x3 h = some (r, h') → Ex Γ gX12_objectBytes d 4 [(0, .ref x0), (1, .int x1), (2, .int x2), (3, .int x3)] [] h (some (.int r)) h' := by
  induction n with
  | zero => intro x0 x1 x2 x3 h r h' H; cases H
  | succ n ih => intro x0 x1 x2 x3 h r h' H; exact tb_X12_objectBytes_4 hd ih H
def f_X12_objectBytes (x0 : Nat) (x1 : Int32) (h : aH) : Option (Int32 × aH) :=
  f_X12_objectBytes_4 FU x0 x1 0 0 h
set_option maxRecDepth 100000 in
set_option maxHeartbeats 4000000 in
theorem t_X12_objectBytes {Γ : gS} {d : Nat} (hd : 1 ≤ d) {x0 : Nat} {x1 : Int32} {h : aH} {r : Int32} {h' : aH} (H : f_X12_objectBytes x0 x1 h = some (r, h')) : Mx Γ gX12_objectBytes d [.ref x0, .int x1] h (some (.int r)) h' := by
  refine Mx.of (by decide +kernel) (Nat.le_of_ble_eq_true rfl) ?_
  unfold f_X12_objectBytes at H
  show Ex Γ gX12_objectBytes d 0 [(0, .ref x0), (1, .int x1)] [] h (some (.int r)) h'
  obtain ⟨d, rfl⟩ : ∃ e, d = e + 1 := ⟨d - 1, by omega⟩
  refine x_iconst (v := 0) dX12_objectBytes_0 (by decide) ?_
  refine x_istore_n (lv' := [(2, .int 0), (0, .ref x0), (1, .int x1)]) dX12_objectBytes_1 rfl (by decide) rfl rfl ?_
  refine x_iconst (v := 0) dX12_objectBytes_2 (by decide) ?_
  refine x_istore_n (lv' := [(3, .int 0), (2, .int 0), (0, .ref x0), (1, .int x1)]) dX12_objectBytes_3 rfl (by decide) rfl rfl ?_
  refine Ex.sub [2, 3, 1, 0] rfl ?_
  exact t_X12_objectBytes_4 hd FU H
def f_X12_longestHole_37 (k4 : Nat → Int32 → Int32 → aH → Option (Int32 × aH)) (x0 : Nat) (x1 : Int32) (x2 : Int32) (h : aH) : Option (Int32 × aH) :=
  nm (x2 + 1) fun (v1 : Int32) =>
  k4 x0 x1 v1 h
set_option maxRecDepth 100000 in
set_option maxHeartbeats 4000000 in
theorem t_X12_longestHole_37 {Γ : gS} {d : Nat} (hd : 0 ≤ d) {k4 : Nat → Int32 → Int32 → aH → Option (Int32 × aH)} (hk4 : ∀ {x0 : Nat} {x1 : Int32} {x2 : Int32} {h : aH} {r : Int32} {h' : aH}, k4 x0 x1 x2 h = some (r, h') → Ex Γ gX12_longestHole d 4 [(0, .ref x0), (1, .int x1), (2, .int x2)] [] h (some (.int r)) h') {x0 : Nat} {x1 : Int32} {x2 : Int32} {h : aH} {r : Int32} {h' : aH} (H : f_X12_longestHole_37 k4 x0 x1 x2 h = some (r, h')) : Ex Γ gX12_longestHole d 37 [(0, .ref x0), (1, .int x1), (2, .int x2)] [] h (some (.int r)) h' := by
  unfold f_X12_longestHole_37 at H
  obtain ⟨v1, ev1, H⟩ := nm_o H
  refine x_iinc (v := v1) (lv' := [(2, .int v1), (0, .ref x0), (1, .int x1)]) dX12_longestHole_37 2 rfl (by decide) ev1 rfl ?_
  refine x_goto (tgt := 4) dX12_longestHole_40 (by decide) ?_
  refine Ex.sub [1, 2, 0] rfl ?_
  exact hk4 H
def b_X12_longestHole_4 (k4 : Nat → Int32 → Int32 → aH → Option (Int32 × aH)) (x0 : Nat) (x1 : Int32) (x2 : Int32) (h : aH) : Option (Int32 × aH) :=
  ko h x0 11 <|
  if (hI h x0 55) ≤ x2 then
    some (x1, h)
  else
    kr (hR h x0 56) fun a4 =>
    ka h a4 .int fun n7 =>
    chk (inb ((2 * x2) + 1) n7 = true) <|
    if (hI h a4 ((2 * x2) + 1 : Int32).toNatClampNeg) ≤ x1 then
      f_X12_longestHole_37 k4 x0 x1 x2 h
    else
      nm (hI h a4 ((2 * x2) + 1 : Int32).toNatClampNeg) fun (v10 : Int32) =>
      f_X12_longestHole_37 k4 x0 v10 x2 h
set_option maxRecDepth 100000 in
set_option maxHeartbeats 4000000 in
theorem tb_X12_longestHole_4 {Γ : gS} {d : Nat} (hd : 0 ≤ d) {k4 : Nat → Int32 → Int32 → aH → Option (Int32 × aH)} (hk4 : ∀ {x0 : Nat} {x1 : Int32} {x2 : Int32} {h : aH} {r : Int32} {h' : aH}, k4 x0 x1 x2 h = some (r, h') → Ex Γ gX12_longestHole d 4 [(0, .ref x0), (1, .int x1), (2, .int x2)] [] h (some (.int r)) h') {x0 : Nat} {x1 : Int32} {x2 : Int32} {h : aH} {r : Int32} {h' : aH} (H : b_X12_longestHole_4 k4 x0 x1 x2 h = some (r, h')) : Ex Γ gX12_longestHole d 4 [(0, .ref x0), (1, .int x1), (2, .int x2)] [] h (some (.int r)) h' := by
  unfold b_X12_longestHole_4 at H
  refine x_iload_n dX12_longestHole_4 rfl 2 rfl ?_
  refine x_aload_n dX12_longestHole_5 rfl 0 rfl ?_
  obtain ⟨c2, H⟩ := ko_o H
  refine x_getI fr_X12_422 dX12_longestHole_6 c2 rfl ?_
  refine x_icmp_ge (tgt := 43) dX12_longestHole_9 (by decide) (fun c3 => ?_) (fun c3 => ?_)
  · replace H := ite_p H c3
    refine x_iload_n dX12_longestHole_43 rfl 1 rfl ?_
    obtain ⟨rfl, rfl⟩ := so_1 H
    exact x_iret dX12_longestHole_44 rfl rfl
  · replace H := ite_m H c3
    refine x_aload_n dX12_longestHole_12 rfl 0 rfl ?_
    obtain ⟨a4, c5, H⟩ := kr_o H
    refine x_getR fr_X12_118 dX12_longestHole_13 c2 rfl c5 ?_
    refine x_iconst (v := 2) dX12_longestHole_16 (by decide) ?_
    refine x_iload_n dX12_longestHole_17 rfl 2 rfl ?_
    refine x_imul dX12_longestHole_18 ?_
    refine x_iconst (v := 1) dX12_longestHole_19 (by decide) ?_
    refine x_iadd dX12_longestHole_20 ?_
    obtain ⟨n7, c6, H⟩ := ka_o H
    obtain ⟨c8, H⟩ := chk_o H
    refine x_iald dX12_longestHole_21 c6 (inb_in.mp c8) ?_
    refine x_iload_n dX12_longestHole_22 rfl 1 rfl ?_
    refine x_icmp_le (tgt := 37) dX12_longestHole_23 (by decide) (fun c9 => ?_) (fun c9 => ?_)
    · replace H := ite_p H c9
      exact t_X12_longestHole_37 hd hk4 H
    · replace H := ite_m H c9
      refine x_aload_n dX12_longestHole_26 rfl 0 rfl ?_
      refine x_getR fr_X12_118 dX12_longestHole_27 c2 rfl c5 ?_
      refine x_iconst (v := 2) dX12_longestHole_30 (by decide) ?_
      refine x_iload_n dX12_longestHole_31 rfl 2 rfl ?_
      refine x_imul dX12_longestHole_32 ?_
      refine x_iconst (v := 1) dX12_longestHole_33 (by decide) ?_
      refine x_iadd dX12_longestHole_34 ?_
      refine x_iald dX12_longestHole_35 c6 (inb_in.mp c8) ?_
      obtain ⟨v10, ev10, H⟩ := nm_o H
      refine x_istore_n (lv' := [(1, .int v10), (0, .ref x0), (2, .int x2)]) dX12_longestHole_36 rfl (by decide) ev10 rfl ?_
      refine Ex.sub [1, 0, 2] rfl ?_
      exact t_X12_longestHole_37 hd hk4 H
def f_X12_longestHole_4 : Nat → Nat → Int32 → Int32 → aH → Option (Int32 × aH)
  | 0 => fun _ _ _ _ => none
  | n + 1 => b_X12_longestHole_4 (f_X12_longestHole_4 n)
set_option maxRecDepth 100000 in
set_option maxHeartbeats 4000000 in
theorem t_X12_longestHole_4 {Γ : gS} {d : Nat} (hd : 0 ≤ d) (n : Nat) : ∀ {x0 : Nat} {x1 : Int32} {x2 : Int32} {h : aH} {r : Int32} {h' : aH}, f_X12_longestHole_4 n x0 x1 x2 h = some (r, h') → Ex Γ gX12_longestHole d 4 [(0, .ref x0), (1, .int x1), (2, .int x2)] [] h (some (.int r)) h' := by
  induction n with
  | zero => intro x0 x1 x2 h r h' H; cases H
  | succ n ih => intro x0 x1 x2 h r h' H; exact tb_X12_longestHole_4 hd ih H
def f_X12_longestHole (x0 : Nat) (h : aH) : Option (Int32 × aH) :=
  f_X12_longestHole_4 FU x0 0 0 h
set_option maxRecDepth 100000 in
set_option maxHeartbeats 4000000 in
theorem t_X12_longestHole {Γ : gS} {d : Nat} (hd : 0 ≤ d) {x0 : Nat} {h : aH} {r : Int32} {h' : aH} (H : f_X12_longestHole x0 h = some (r, h')) : Mx Γ gX12_longestHole d [.ref x0] h (some (.int r)) h' := by
  refine Mx.of (by decide +kernel) (Nat.le_of_ble_eq_true rfl) ?_
  unfold f_X12_longestHole at H
  show Ex Γ gX12_longestHole d 0 [(0, .ref x0)] [] h (some (.int r)) h'
  refine x_iconst (v := 0) dX12_longestHole_0 (by decide) ?_
  refine x_istore_n (lv' := [(1, .int 0), (0, .ref x0)]) dX12_longestHole_1 rfl (by decide) rfl rfl ?_
  refine x_iconst (v := 0) dX12_longestHole_2 (by decide) ?_
  refine x_istore_n (lv' := [(2, .int 0), (1, .int 0), (0, .ref x0)]) dX12_longestHole_3 rfl (by decide) rfl rfl ?_
  refine Ex.sub [2, 1, 0] rfl ?_
  exact t_X12_longestHole_4 hd FU H
def f_X12_has_123 (h : aH) : Option (Int32 × aH) :=
  some ((-1), h)
set_option maxRecDepth 100000 in
set_option maxHeartbeats 4000000 in
theorem t_X12_has_123 {Γ : gS} {d : Nat} (hd : 2 ≤ d) {h : aH} {r : Int32} {h' : aH} (H : f_X12_has_123 h = some (r, h')) : Ex Γ gX12_has d 123 [] [] h (some (.int r)) h' := by
  unfold f_X12_has_123 at H
  obtain ⟨d, rfl⟩ : ∃ e, d = e + 1 := ⟨d - 1, by omega⟩
  refine x_iconst (v := (-1)) dX12_has_123 (by decide) ?_
  obtain ⟨rfl, rfl⟩ := so_1 H
  exact x_iret dX12_has_124 rfl rfl
def f_X12_has_64 (x0 : Nat) (x1 : Int32) (h : aH) : Option (Int32 × aH) :=
  ko h x0 11 <|
  kr (hR h x0 37) fun a2 =>
  ka h a2 .int fun n5 =>
  chk (inb (3 + x1) n5 = true) <|
  some (hI h a2 (3 + x1 : Int32).toNatClampNeg, h)
set_option maxRecDepth 100000 in
set_option maxHeartbeats 4000000 in
theorem t_X12_has_64 {Γ : gS} {d : Nat} (hd : 2 ≤ d) {x0 : Nat} {x1 : Int32} {h : aH} {r : Int32} {h' : aH} (H : f_X12_has_64 x0 x1 h = some (r, h')) : Ex Γ gX12_has d 64 [(0, .ref x0), (1, .int x1)] [] h (some (.int r)) h' := by
  unfold f_X12_has_64 at H
  obtain ⟨d, rfl⟩ : ∃ e, d = e + 1 := ⟨d - 1, by omega⟩
  refine x_aload_n dX12_has_64 rfl 0 rfl ?_
  obtain ⟨c1, H⟩ := ko_o H
  obtain ⟨a2, c3, H⟩ := kr_o H
  refine x_getR fr_X12_96 dX12_has_65 c1 rfl c3 ?_
  refine x_iconst (v := 3) dX12_has_68 (by decide) ?_
  refine x_iload_n dX12_has_69 rfl 1 rfl ?_
  refine x_iadd dX12_has_70 ?_
  obtain ⟨n5, c4, H⟩ := ka_o H
  obtain ⟨c6, H⟩ := chk_o H
  refine x_iald dX12_has_71 c4 (inb_in.mp c6) ?_
  obtain ⟨rfl, rfl⟩ := so_1 H
  exact x_iret dX12_has_72 rfl rfl
def f_X12_has (x0 : Nat) (x1 : Int32) (h : aH) : Option (Int32 × aH) :=
  ko h x0 11 <|
  bd (f_X12_laysHoles x0 h) fun _ h8 =>
  if x1 < 0 then
    f_X12_has_123 h8
  else
  if 10 < x1 then
    f_X12_has_123 h8
  else
  if x1 = 0 then
    f_X12_has_64 x0 x1 h8
  else
  if x1 = 1 then
    f_X12_has_64 x0 x1 h8
  else
  if x1 = 2 then
    ko h8 x0 11 <|
    bd (f_X12_validMany x0 h8) fun v15 h16 =>
    some (v15, h16)
  else
  if x1 = 3 then
    ko h8 x0 11 <|
    bd (f_X12_objectMany x0 h8) fun v20 h21 =>
    some (v20, h21)
  else
  if x1 = 4 then
    ko h8 x0 11 <|
    bd (f_X12_objectBytes x0 1 h8) fun v25 h26 =>
    some (v25, h26)
  else
  if x1 = 5 then
    ko h8 x0 11 <|
    some (hI h8 x0 55, h8)
  else
  if x1 = 6 then
    ko h8 x0 11 <|
    bd (f_X12_longestHole x0 h8) fun v32 h33 =>
    some (v32, h33)
  else
  if x1 = 7 then
    ko h8 x0 11 <|
    kr (hR h8 x0 47) fun a38 =>
    ka h8 a38 .int fun n41 =>
    chk (inb 1377 n41 = true) <|
    some (hI h8 a38 (1377 : Int32).toNatClampNeg, h8)
  else
  if x1 = 8 then
    ko h8 x0 11 <|
    some (hI h8 x0 58, h8)
  else
  if x1 = 9 then
    ko h8 x0 11 <|
    some (hI h8 x0 63, h8)
  else
  if x1 = 10 then
    ko h8 x0 11 <|
    bd (f_X12_shelfMany x0 h8) fun v48 h49 =>
    some (v48, h49)
  else
  none
set_option maxRecDepth 100000 in
set_option maxHeartbeats 4000000 in
theorem t_X12_has {Γ : gS} {d : Nat} (hd : 2 ≤ d) {x0 : Nat} {x1 : Int32} {h : aH} {r : Int32} {h' : aH} (H : f_X12_has x0 x1 h = some (r, h')) : Mx Γ gX12_has d [.ref x0, .int x1] h (some (.int r)) h' := by
  refine Mx.of (by decide +kernel) (Nat.le_of_ble_eq_true rfl) ?_
  unfold f_X12_has at H
  show Ex Γ gX12_has d 0 [(0, .ref x0), (1, .int x1)] [] h (some (.int r)) h'
  obtain ⟨d, rfl⟩ : ∃ e, d = e + 1 := ⟨d - 1, by omega⟩
  refine x_aload_n dX12_has_0 rfl 0 rfl ?_
  obtain ⟨c52, H⟩ := ko_o H
  obtain ⟨v7, h8, hc9, H⟩ := bd_o H
  refine x_callVv (As := []) (q := (RX12, TX12, 103)) dX12_has_1 mi_X12_laysHoles lk_X12_448 im_X12_laysHoles se_X12_laysHoles rfl c52 rfl rfl (Nat.le_of_ble_eq_true rfl) (t_X12_laysHoles (by omega) hc9) ?_
  refine x_iload_n dX12_has_4 rfl 1 rfl ?_
  by_cases c10 : x1 < 0
  · replace H := ite_p H c10
    refine x_tableOut (tgt := 123) dX12_has_5 (Or.inl (sw_lo c10 (by decide))) (by decide) ?_
    refine Ex.sub [] rfl ?_
    exact t_X12_has_123 hd H
  replace H := ite_m H c10
  by_cases c11 : 10 < x1
  · replace H := ite_p H c11
    refine x_tableOut (tgt := 123) dX12_has_5 (Or.inr (sw_hi c11 (by decide))) (by decide) ?_
    refine Ex.sub [] rfl ?_
    exact t_X12_has_123 hd H
  replace H := ite_m H c11
  by_cases c12 : x1 = 0
  · replace H := ite_p H c12
    refine x_tableIn (tgt := 64) dX12_has_5 (by rw [c12]; decide) (by rw [c12]; decide) (by rw [c12]; rfl) (by decide) ?_
    exact t_X12_has_64 hd H
  replace H := ite_m H c12
  by_cases c13 : x1 = 1
  · replace H := ite_p H c13
    refine x_tableIn (tgt := 64) dX12_has_5 (by rw [c13]; decide) (by rw [c13]; decide) (by rw [c13]; rfl) (by decide) ?_
    exact t_X12_has_64 hd H
  replace H := ite_m H c13
  by_cases c14 : x1 = 2
  · replace H := ite_p H c14
    refine x_tableIn (tgt := 73) dX12_has_5 (by rw [c14]; decide) (by rw [c14]; decide) (by rw [c14]; rfl) (by decide) ?_
    refine x_aload_n dX12_has_73 rfl 0 rfl ?_
    obtain ⟨c18, H⟩ := ko_o H
    obtain ⟨v15, h16, hc17, H⟩ := bd_o H
    refine x_callVi (As := []) (q := (RX12, TX12, 103)) dX12_has_74 mi_X12_validMany lk_X12_463 im_X12_validMany se_X12_validMany rfl c18 rfl rfl (Nat.le_of_ble_eq_true rfl) (t_X12_validMany (by omega) hc17) ?_
    obtain ⟨rfl, rfl⟩ := so_1 H
    exact x_iret dX12_has_77 rfl rfl
  replace H := ite_m H c14
  by_cases c19 : x1 = 3
  · replace H := ite_p H c19
    refine x_tableIn (tgt := 78) dX12_has_5 (by rw [c19]; decide) (by rw [c19]; decide) (by rw [c19]; rfl) (by decide) ?_
    refine x_aload_n dX12_has_78 rfl 0 rfl ?_
    obtain ⟨c23, H⟩ := ko_o H
    obtain ⟨v20, h21, hc22, H⟩ := bd_o H
    refine x_callVi (As := []) (q := (RX12, TX12, 103)) dX12_has_79 mi_X12_objectMany lk_X12_425 im_X12_objectMany se_X12_objectMany rfl c23 rfl rfl (Nat.le_of_ble_eq_true rfl) (t_X12_objectMany (by omega) hc22) ?_
    obtain ⟨rfl, rfl⟩ := so_1 H
    exact x_iret dX12_has_82 rfl rfl
  replace H := ite_m H c19
  by_cases c24 : x1 = 4
  · replace H := ite_p H c24
    refine x_tableIn (tgt := 83) dX12_has_5 (by rw [c24]; decide) (by rw [c24]; decide) (by rw [c24]; rfl) (by decide) ?_
    refine x_aload_n dX12_has_83 rfl 0 rfl ?_
    refine x_iconst (v := 1) dX12_has_84 (by decide) ?_
    obtain ⟨c28, H⟩ := ko_o H
    obtain ⟨v25, h26, hc27, H⟩ := bd_o H
    refine x_callVi (As := [.int 1]) (q := (RX12, TX12, 103)) dX12_has_85 mi_X12_objectBytes lk_X12_466 im_X12_objectBytes se_X12_objectBytes rfl c28 rfl rfl (Nat.le_of_ble_eq_true rfl) (t_X12_objectBytes (by omega) hc27) ?_
    obtain ⟨rfl, rfl⟩ := so_1 H
    exact x_iret dX12_has_88 rfl rfl
  replace H := ite_m H c24
  by_cases c29 : x1 = 5
  · replace H := ite_p H c29
    refine x_tableIn (tgt := 89) dX12_has_5 (by rw [c29]; decide) (by rw [c29]; decide) (by rw [c29]; rfl) (by decide) ?_
    refine x_aload_n dX12_has_89 rfl 0 rfl ?_
    obtain ⟨c30, H⟩ := ko_o H
    refine x_getI fr_X12_422 dX12_has_90 c30 rfl ?_
    obtain ⟨rfl, rfl⟩ := so_1 H
    exact x_iret dX12_has_93 rfl rfl
  replace H := ite_m H c29
  by_cases c31 : x1 = 6
  · replace H := ite_p H c31
    refine x_tableIn (tgt := 94) dX12_has_5 (by rw [c31]; decide) (by rw [c31]; decide) (by rw [c31]; rfl) (by decide) ?_
    refine x_aload_n dX12_has_94 rfl 0 rfl ?_
    obtain ⟨c35, H⟩ := ko_o H
    obtain ⟨v32, h33, hc34, H⟩ := bd_o H
    refine x_callVi (As := []) (q := (RX12, TX12, 103)) dX12_has_95 mi_X12_longestHole lk_X12_469 im_X12_longestHole se_X12_longestHole rfl c35 rfl rfl (Nat.le_of_ble_eq_true rfl) (t_X12_longestHole (by omega) hc34) ?_
    obtain ⟨rfl, rfl⟩ := so_1 H
    exact x_iret dX12_has_98 rfl rfl
  replace H := ite_m H c31
  by_cases c36 : x1 = 7
  · replace H := ite_p H c36
    refine x_tableIn (tgt := 99) dX12_has_5 (by rw [c36]; decide) (by rw [c36]; decide) (by rw [c36]; rfl) (by decide) ?_
    refine x_aload_n dX12_has_99 rfl 0 rfl ?_
    obtain ⟨c37, H⟩ := ko_o H
    obtain ⟨a38, c39, H⟩ := kr_o H
    refine x_getR fr_X12_115 dX12_has_100 c37 rfl c39 ?_
    refine x_sipush (v := 1377) dX12_has_103 (by decide) ?_
    obtain ⟨n41, c40, H⟩ := ka_o H
    obtain ⟨c42, H⟩ := chk_o H
    refine x_iald dX12_has_106 c40 (inb_in.mp c42) ?_
    obtain ⟨rfl, rfl⟩ := so_1 H
    exact x_iret dX12_has_107 rfl rfl
  replace H := ite_m H c36
  by_cases c43 : x1 = 8
  · replace H := ite_p H c43
    refine x_tableIn (tgt := 108) dX12_has_5 (by rw [c43]; decide) (by rw [c43]; decide) (by rw [c43]; rfl) (by decide) ?_
    refine x_aload_n dX12_has_108 rfl 0 rfl ?_
    obtain ⟨c44, H⟩ := ko_o H
    refine x_getI fr_X12_365 dX12_has_109 c44 rfl ?_
    obtain ⟨rfl, rfl⟩ := so_1 H
    exact x_iret dX12_has_112 rfl rfl
  replace H := ite_m H c43
  by_cases c45 : x1 = 9
  · replace H := ite_p H c45
    refine x_tableIn (tgt := 113) dX12_has_5 (by rw [c45]; decide) (by rw [c45]; decide) (by rw [c45]; rfl) (by decide) ?_
    refine x_aload_n dX12_has_113 rfl 0 rfl ?_
    obtain ⟨c46, H⟩ := ko_o H
    refine x_getI fr_X12_362 dX12_has_114 c46 rfl ?_
    obtain ⟨rfl, rfl⟩ := so_1 H
    exact x_iret dX12_has_117 rfl rfl
  replace H := ite_m H c45
  by_cases c47 : x1 = 10
  · replace H := ite_p H c47
    refine x_tableIn (tgt := 118) dX12_has_5 (by rw [c47]; decide) (by rw [c47]; decide) (by rw [c47]; rfl) (by decide) ?_
    refine x_aload_n dX12_has_118 rfl 0 rfl ?_
    obtain ⟨c51, H⟩ := ko_o H
    obtain ⟨v48, h49, hc50, H⟩ := bd_o H
    refine x_callVi (As := []) (q := (RX12, TX12, 103)) dX12_has_119 mi_X12_shelfMany lk_X12_370 im_X12_shelfMany se_X12_shelfMany rfl c51 rfl rfl (Nat.le_of_ble_eq_true rfl) (t_X12_shelfMany (by omega) hc50) ?_
    obtain ⟨rfl, rfl⟩ := so_1 H
    exact x_iret dX12_has_122 rfl rfl
  replace H := ite_m H c47
  cases H
def f_X12_letter_20 (h : aH) : Option (Int32 × aH) :=
  some ((-1), h)
set_option maxRecDepth 100000 in
set_option maxHeartbeats 4000000 in
theorem t_X12_letter_20 {Γ : gS} {d : Nat} (hd : 2 ≤ d) {h : aH} {r : Int32} {h' : aH} (H : f_X12_letter_20 h = some (r, h')) : Ex Γ gX12_letter d 20 [] [] h (some (.int r)) h' := by
  unfold f_X12_letter_20 at H
  obtain ⟨d, rfl⟩ : ∃ e, d = e + 1 := ⟨d - 1, by omega⟩
  refine x_iconst (v := (-1)) dX12_letter_20 (by decide) ?_
  obtain ⟨rfl, rfl⟩ := so_1 H
  exact x_iret dX12_letter_21 rfl rfl
def b_X12_letter_72 (k72 : Int32 → Int64 → Int32 → aH → Option (Int32 × aH)) (x2 : Int32) (x3 : Int64) (x6 : Int32) (h : aH) : Option (Int32 × aH) :=
  if x6 ≤ x2 then
    some ((x3 - x3 / 27 * 27 : Int64).toInt32, h)
  else
    nm (x3 / 27) fun (v2 : Int64) =>
    nm (x6 + (-1)) fun (v3 : Int32) =>
    k72 x2 v2 v3 h
set_option maxRecDepth 100000 in
set_option maxHeartbeats 4000000 in
theorem tb_X12_letter_72 {Γ : gS} {d : Nat} (hd : 2 ≤ d) {k72 : Int32 → Int64 → Int32 → aH → Option (Int32 × aH)} (hk72 : ∀ {x2 : Int32} {x3 : Int64} {x6 : Int32} {h : aH} {r : Int32} {h' : aH}, k72 x2 x3 x6 h = some (r, h') → Ex Γ gX12_letter d 72 [(2, .int x2), (3, .long x3), (6, .int x6)] [] h (some (.int r)) h') {x2 : Int32} {x3 : Int64} {x6 : Int32} {h : aH} {r : Int32} {h' : aH} (H : b_X12_letter_72 k72 x2 x3 x6 h = some (r, h')) : Ex Γ gX12_letter d 72 [(2, .int x2), (3, .long x3), (6, .int x6)] [] h (some (.int r)) h' := by
  unfold b_X12_letter_72 at H
  obtain ⟨d, rfl⟩ : ∃ e, d = e + 1 := ⟨d - 1, by omega⟩
  refine x_iload dX12_letter_72 2 rfl ?_
  refine x_iload_n dX12_letter_74 rfl 0 rfl ?_
  refine x_icmp_le (tgt := 90) dX12_letter_75 (by decide) (fun c1 => ?_) (fun c1 => ?_)
  · replace H := ite_p H c1
    refine x_lload_n dX12_letter_90 rfl 1 rfl ?_
    refine x_ldc2 kc_X12_279 dX12_letter_91 ?_
    refine x_lrem dX12_letter_94 (by decide) ?_
    refine x_l2i dX12_letter_95 ?_
    obtain ⟨rfl, rfl⟩ := so_1 H
    exact x_iret dX12_letter_96 rfl rfl
  · replace H := ite_m H c1
    refine x_lload_n dX12_letter_78 rfl 1 rfl ?_
    refine x_ldc2 kc_X12_279 dX12_letter_79 ?_
    refine x_ldiv dX12_letter_82 (by decide) ?_
    obtain ⟨v2, ev2, H⟩ := nm_o H
    refine x_lstore_n (lv' := [(3, .long v2), (2, .int x2), (6, .int x6)]) dX12_letter_83 rfl (by decide) ev2 rfl ?_
    obtain ⟨v3, ev3, H⟩ := nm_o H
    refine x_iinc (v := v3) (lv' := [(6, .int v3), (3, .long v2), (2, .int x2)]) dX12_letter_84 2 rfl (by decide) ev3 rfl ?_
    refine x_goto (tgt := 72) dX12_letter_87 (by decide) ?_
    refine Ex.sub [2, 1, 0] rfl ?_
    exact hk72 H
def f_X12_letter_72 : Nat → Int32 → Int64 → Int32 → aH → Option (Int32 × aH)
  | 0 => fun _ _ _ _ => none
  | n + 1 => b_X12_letter_72 (f_X12_letter_72 n)
set_option maxRecDepth 100000 in
set_option maxHeartbeats 4000000 in
theorem t_X12_letter_72 {Γ : gS} {d : Nat} (hd : 2 ≤ d) (n : Nat) : ∀ {x2 : Int32} {x3 : Int64} {x6 : Int32} {h : aH} {r : Int32} {h' : aH}, f_X12_letter_72 n x2 x3 x6 h = some (r, h') → Ex Γ gX12_letter d 72 [(2, .int x2), (3, .long x3), (6, .int x6)] [] h (some (.int r)) h' := by
  induction n with
  | zero => intro x2 x3 x6 h r h' H; cases H
  | succ n ih => intro x2 x3 x6 h r h' H; exact tb_X12_letter_72 hd ih H
def b_X12_letter_37 (k37 : Int32 → Int64 → Int32 → Int64 → aH → Option (Int32 × aH)) (x2 : Int32) (x3 : Int64) (x5 : Int32) (x6 : Int64) (h : aH) : Option (Int32 × aH) :=
  if (lg_cmp x6 0) ≤ 0 then
    if x2 < x5 then
      nm (x5 - 1) fun (v6 : Int32) =>
      f_X12_letter_72 FU x2 x3 v6 h
    else
      some (0, h)
  else
    nm (x5 + 1) fun (v7 : Int32) =>
    nm (x6 / 27) fun (v8 : Int64) =>
    k37 x2 x3 v7 v8 h
set_option maxRecDepth 100000 in
set_option maxHeartbeats 4000000 in
theorem tb_X12_letter_37 {Γ : gS} {d : Nat} (hd : 2 ≤ d) {k37 : Int32 → Int64 → Int32 → Int64 → aH → Option (Int32 × aH)} (hk37 : ∀ {x2 : Int32} {x3 : Int64} {x5 : Int32} {x6 : Int64} {h : aH} {r : Int32} {h' : aH}, k37 x2 x3 x5 x6 h = some (r, h') → Ex Γ gX12_letter d 37 [(2, .int x2), (3, .long x3), (5, .int x5), (6, .long x6)] [] h (some (.int r)) h') {x2 : Int32} {x3 : Int64} {x5 : Int32} {x6 : Int64} {h : aH} {r : Int32} {h' : aH} (H : b_X12_letter_37 k37 x2 x3 x5 x6 h = some (r, h')) : Ex Γ gX12_letter d 37 [(2, .int x2), (3, .long x3), (5, .int x5), (6, .long x6)] [] h (some (.int r)) h' := by
  unfold b_X12_letter_37 at H
  obtain ⟨d, rfl⟩ : ∃ e, d = e + 1 := ⟨d - 1, by omega⟩
  refine x_lload dX12_letter_37 3 rfl ?_
  refine x_lconst (v := 0) dX12_letter_39 (by decide) ?_
  refine x_lcmp dX12_letter_40 ?_
  refine x_if_le (tgt := 58) dX12_letter_41 (by decide) (fun c4 => ?_) (fun c4 => ?_)
  · replace H := ite_p H c4
    refine x_iload_n dX12_letter_58 rfl 0 rfl ?_
    refine x_iload dX12_letter_59 2 rfl ?_
    refine x_icmp_lt (tgt := 66) dX12_letter_61 (by decide) (fun c5 => ?_) (fun c5 => ?_)
    · replace H := ite_p H c5
      refine x_iload dX12_letter_66 2 rfl ?_
      refine x_iconst (v := 1) dX12_letter_68 (by decide) ?_
      refine x_isub dX12_letter_69 ?_
      obtain ⟨v6, ev6, H⟩ := nm_o H
      refine x_istore (lv' := [(6, .int v6), (2, .int x2), (3, .long x3), (5, .int x5)]) dX12_letter_70 (by decide) ev6 rfl ?_
      refine Ex.sub [1, 2, 0] rfl ?_
      exact t_X12_letter_72 hd FU H
    · replace H := ite_m H c5
      refine x_iconst (v := 0) dX12_letter_64 (by decide) ?_
      obtain ⟨rfl, rfl⟩ := so_1 H
      exact x_iret dX12_letter_65 rfl rfl
  · replace H := ite_m H c4
    obtain ⟨v7, ev7, H⟩ := nm_o H
    refine x_iinc (v := v7) (lv' := [(5, .int v7), (2, .int x2), (3, .long x3), (6, .long x6)]) dX12_letter_44 2 rfl (by decide) ev7 rfl ?_
    refine x_lload dX12_letter_47 3 rfl ?_
    refine x_ldc2 kc_X12_279 dX12_letter_49 ?_
    refine x_ldiv dX12_letter_52 (by decide) ?_
    obtain ⟨v8, ev8, H⟩ := nm_o H
    refine x_lstore (lv' := [(6, .long v8), (5, .int v7), (2, .int x2), (3, .long x3)]) dX12_letter_53 (by decide) ev8 rfl ?_
    refine x_goto (tgt := 37) dX12_letter_55 (by decide) ?_
    refine Ex.sub [2, 3, 1, 0] rfl ?_
    exact hk37 H
def f_X12_letter_37 : Nat → Int32 → Int64 → Int32 → Int64 → aH → Option (Int32 × aH)
  | 0 => fun _ _ _ _ _ => none
  | n + 1 => b_X12_letter_37 (f_X12_letter_37 n)
set_option maxRecDepth 100000 in
set_option maxHeartbeats 4000000 in
theorem t_X12_letter_37 {Γ : gS} {d : Nat} (hd : 2 ≤ d) (n : Nat) : ∀ {x2 : Int32} {x3 : Int64} {x5 : Int32} {x6 : Int64} {h : aH} {r : Int32} {h' : aH}, f_X12_letter_37 n x2 x3 x5 x6 h = some (r, h') → Ex Γ gX12_letter d 37 [(2, .int x2), (3, .long x3), (5, .int x5), (6, .long x6)] [] h (some (.int r)) h' := by
  induction n with
  | zero => intro x2 x3 x5 x6 h r h' H; cases H
  | succ n ih => intro x2 x3 x5 x6 h r h' H; exact tb_X12_letter_37 hd ih H
def f_X12_letter (x0 : Nat) (x1 : Int32) (x2 : Int32) (h : aH) : Option (Int32 × aH) :=
  ko h x0 11 <|
  bd (f_X12_isShelf x0 x1 h) fun v9 h10 =>
  if v9 = 0 then
    f_X12_letter_20 h10
  else
    bd (f_X12_isIn x2.toInt64 0 5 h10) fun v13 h14 =>
    if v13 = 0 then
      f_X12_letter_20 h14
    else
      ko h14 x0 11 <|
      kr (hR h14 x0 38) fun a18 =>
      ka h14 a18 .long fun n21 =>
      chk (inb (4 + x1) n21 = true) <|
      nm (hL h14 a18 (4 + x1 : Int32).toNatClampNeg) fun (v23 : Int64) =>
      f_X12_letter_37 FU x2 v23 0 v23 h14
set_option maxRecDepth 100000 in
set_option maxHeartbeats 4000000 in
theorem t_X12_letter {Γ : gS} {d : Nat} (hd : 2 ≤ d) {x0 : Nat} {x1 : Int32} {x2 : Int32} {h : aH} {r : Int32} {h' : aH} (H : f_X12_letter x0 x1 x2 h = some (r, h')) : Mx Γ gX12_letter d [.ref x0, .int x1, .int x2] h (some (.int r)) h' := by
  refine Mx.of (by decide +kernel) (Nat.le_of_ble_eq_true rfl) ?_
  unfold f_X12_letter at H
  show Ex Γ gX12_letter d 0 [(0, .ref x0), (1, .int x1), (2, .int x2)] [] h (some (.int r)) h'
  obtain ⟨d, rfl⟩ : ∃ e, d = e + 1 := ⟨d - 1, by omega⟩
  refine x_aload_n dX12_letter_0 rfl 0 rfl ?_
  refine x_iload_n dX12_letter_1 rfl 1 rfl ?_
  obtain ⟨c24, H⟩ := ko_o H
  obtain ⟨v9, h10, hc11, H⟩ := bd_o H
  refine x_callVi (As := [.int x1]) (q := (RX12, TX12, 103)) dX12_letter_2 mi_X12_isShelf lk_X12_472 im_X12_isShelf se_X12_isShelf rfl c24 rfl rfl (Nat.le_of_ble_eq_true rfl) (t_X12_isShelf (by omega) hc11) ?_
  refine x_if_eq (tgt := 20) dX12_letter_5 (by decide) (fun c12 => ?_) (fun c12 => ?_)
  · replace H := ite_p H c12
    refine Ex.sub [] rfl ?_
    exact t_X12_letter_20 hd H
  · replace H := ite_m H c12
    refine x_iload_n dX12_letter_8 rfl 2 rfl ?_
    refine x_i2l dX12_letter_9 ?_
    refine x_lconst (v := 0) dX12_letter_10 (by decide) ?_
    refine x_ldc2 kc_X12_475 dX12_letter_11 ?_
    obtain ⟨v13, h14, hc15, H⟩ := bd_o H
    refine x_callSi (As := [.long x2.toInt64, .long 0, .long 5]) dX12_letter_14 mi_X12_isIn lk_X12_268 sm_X12_isIn rfl rfl (Nat.le_of_ble_eq_true rfl) (t_X12_isIn (by omega) hc15) ?_
    refine x_if_ne (tgt := 22) dX12_letter_17 (by decide) (fun c16 => ?_) (fun c16 => ?_)
    · replace H := ite_m H c16
      refine x_aload_n dX12_letter_22 rfl 0 rfl ?_
      obtain ⟨c17, H⟩ := ko_o H
      obtain ⟨a18, c19, H⟩ := kr_o H
      refine x_getR fr_X12_99 dX12_letter_23 c17 rfl c19 ?_
      refine x_iconst (v := 4) dX12_letter_26 (by decide) ?_
      refine x_iload_n dX12_letter_27 rfl 1 rfl ?_
      refine x_iadd dX12_letter_28 ?_
      obtain ⟨n21, c20, H⟩ := ka_o H
      obtain ⟨c22, H⟩ := chk_o H
      refine x_lald dX12_letter_29 c20 (inb_in.mp c22) ?_
      obtain ⟨v23, ev23, H⟩ := nm_o H
      refine x_lstore_n (lv' := [(3, .long v23), (0, .ref x0), (1, .int x1), (2, .int x2)]) dX12_letter_30 rfl (by decide) ev23 rfl ?_
      refine x_iconst (v := 0) dX12_letter_31 (by decide) ?_
      refine x_istore (lv' := [(5, .int 0), (3, .long v23), (0, .ref x0), (1, .int x1), (2, .int x2)]) dX12_letter_32 (by decide) rfl rfl ?_
      refine x_lload_n dX12_letter_34 rfl 1 rfl ?_
      refine x_lstore (lv' := [(6, .long v23), (5, .int 0), (3, .long v23), (0, .ref x0), (1, .int x1), (2, .int x2)]) dX12_letter_35 (by decide) rfl rfl ?_
      refine Ex.sub [5, 2, 1, 0] rfl ?_
      exact t_X12_letter_37 hd FU H
    · replace H := ite_p H c16
      refine Ex.sub [] rfl ?_
      exact t_X12_letter_20 hd H
def f_X12_told_126 (h : aH) : Option (Int32 × aH) :=
  some ((-1), h)
set_option maxRecDepth 100000 in
set_option maxHeartbeats 4000000 in
theorem t_X12_told_126 {Γ : gS} {d : Nat} (hd : 5 ≤ d) {h : aH} {r : Int32} {h' : aH} (H : f_X12_told_126 h = some (r, h')) : Ex Γ gX12_told d 126 [] [] h (some (.int r)) h' := by
  unfold f_X12_told_126 at H
  obtain ⟨d, rfl⟩ : ∃ e, d = e + 1 := ⟨d - 1, by omega⟩
  refine x_iconst (v := (-1)) dX12_told_126 (by decide) ?_
  obtain ⟨rfl, rfl⟩ := so_1 H
  exact x_iret dX12_told_127 rfl rfl
def f_X12_told (x0 : Nat) (x1 : Int32) (x2 : Int32) (h : aH) : Option (Int32 × aH) :=
  if x2 < 0 then
    f_X12_told_126 h
  else
  if 8 < x2 then
    f_X12_told_126 h
  else
  if x2 = 0 then
    ko h x0 11 <|
    kr (hR h x0 47) fun a5 =>
    ka h a5 .int fun n8 =>
    chk (inb x1 n8 = true) <|
    some (hI h a5 x1.toNatClampNeg, h)
  else
  if x2 = 1 then
    ko h x0 11 <|
    kr (hR h x0 47) fun a12 =>
    ka h a12 .int fun n15 =>
    chk (inb (x1 + 1) n15 = true) <|
    some (hI h a12 (x1 + 1 : Int32).toNatClampNeg, h)
  else
  if x2 = 2 then
    ko h x0 11 <|
    bd (f_X12_baseOf x0 x1 h) fun v18 h19 =>
    some (v18, h19)
  else
  if x2 = 3 then
    ko h x0 11 <|
    bd (f_X12_lengthOf x0 x1 h) fun v23 h24 =>
    some (v23, h24)
  else
  if x2 = 4 then
    ko h x0 11 <|
    kr (hR h x0 47) fun a29 =>
    ka h a29 .int fun n32 =>
    chk (inb (x1 + 2) n32 = true) <|
    some (hI h a29 (x1 + 2 : Int32).toNatClampNeg, h)
  else
  if x2 = 5 then
    ko h x0 11 <|
    kr (hR h x0 47) fun a36 =>
    ka h a36 .int fun n39 =>
    chk (inb (x1 + 3) n39 = true) <|
    some (hI h a36 (x1 + 3 : Int32).toNatClampNeg, h)
  else
  if x2 = 6 then
    ko h x0 11 <|
    kr (hR h x0 47) fun a43 =>
    ka h a43 .int fun n46 =>
    chk (inb (x1 + 4) n46 = true) <|
    some (hI h a43 (x1 + 4 : Int32).toNatClampNeg, h)
  else
  if x2 = 7 then
    ko h x0 11 <|
    kr (hR h x0 47) fun a50 =>
    ka h a50 .int fun n53 =>
    chk (inb (x1 + 5) n53 = true) <|
    some (hI h a50 (x1 + 5 : Int32).toNatClampNeg, h)
  else
  if x2 = 8 then
    ko h x0 11 <|
    kr (hR h x0 47) fun a57 =>
    ka h a57 .int fun n60 =>
    chk (inb (x1 + 6) n60 = true) <|
    some (hI h a57 (x1 + 6 : Int32).toNatClampNeg, h)
  else
  none
set_option maxRecDepth 100000 in
set_option maxHeartbeats 4000000 in
theorem t_X12_told {Γ : gS} {d : Nat} (hd : 5 ≤ d) {x0 : Nat} {x1 : Int32} {x2 : Int32} {h : aH} {r : Int32} {h' : aH} (H : f_X12_told x0 x1 x2 h = some (r, h')) : Mx Γ gX12_told d [.ref x0, .int x1, .int x2] h (some (.int r)) h' := by
  refine Mx.of (by decide +kernel) (Nat.le_of_ble_eq_true rfl) ?_
  unfold f_X12_told at H
  show Ex Γ gX12_told d 0 [(0, .ref x0), (1, .int x1), (2, .int x2)] [] h (some (.int r)) h'
  obtain ⟨d, rfl⟩ : ∃ e, d = e + 1 := ⟨d - 1, by omega⟩
  refine x_iload_n dX12_told_0 rfl 2 rfl ?_
  by_cases c1 : x2 < 0
  · replace H := ite_p H c1
    refine x_tableOut (tgt := 126) dX12_told_1 (Or.inl (sw_lo c1 (by decide))) (by decide) ?_
    refine Ex.sub [] rfl ?_
    exact t_X12_told_126 hd H
  replace H := ite_m H c1
  by_cases c2 : 8 < x2
  · replace H := ite_p H c2
    refine x_tableOut (tgt := 126) dX12_told_1 (Or.inr (sw_hi c2 (by decide))) (by decide) ?_
    refine Ex.sub [] rfl ?_
    exact t_X12_told_126 hd H
  replace H := ite_m H c2
  by_cases c3 : x2 = 0
  · replace H := ite_p H c3
    refine x_tableIn (tgt := 52) dX12_told_1 (by rw [c3]; decide) (by rw [c3]; decide) (by rw [c3]; rfl) (by decide) ?_
    refine x_aload_n dX12_told_52 rfl 0 rfl ?_
    obtain ⟨c4, H⟩ := ko_o H
    obtain ⟨a5, c6, H⟩ := kr_o H
    refine x_getR fr_X12_115 dX12_told_53 c4 rfl c6 ?_
    refine x_iload_n dX12_told_56 rfl 1 rfl ?_
    obtain ⟨n8, c7, H⟩ := ka_o H
    obtain ⟨c9, H⟩ := chk_o H
    refine x_iald dX12_told_57 c7 (inb_in.mp c9) ?_
    obtain ⟨rfl, rfl⟩ := so_1 H
    exact x_iret dX12_told_58 rfl rfl
  replace H := ite_m H c3
  by_cases c10 : x2 = 1
  · replace H := ite_p H c10
    refine x_tableIn (tgt := 59) dX12_told_1 (by rw [c10]; decide) (by rw [c10]; decide) (by rw [c10]; rfl) (by decide) ?_
    refine x_aload_n dX12_told_59 rfl 0 rfl ?_
    obtain ⟨c11, H⟩ := ko_o H
    obtain ⟨a12, c13, H⟩ := kr_o H
    refine x_getR fr_X12_115 dX12_told_60 c11 rfl c13 ?_
    refine x_iload_n dX12_told_63 rfl 1 rfl ?_
    refine x_iconst (v := 1) dX12_told_64 (by decide) ?_
    refine x_iadd dX12_told_65 ?_
    obtain ⟨n15, c14, H⟩ := ka_o H
    obtain ⟨c16, H⟩ := chk_o H
    refine x_iald dX12_told_66 c14 (inb_in.mp c16) ?_
    obtain ⟨rfl, rfl⟩ := so_1 H
    exact x_iret dX12_told_67 rfl rfl
  replace H := ite_m H c10
  by_cases c17 : x2 = 2
  · replace H := ite_p H c17
    refine x_tableIn (tgt := 68) dX12_told_1 (by rw [c17]; decide) (by rw [c17]; decide) (by rw [c17]; rfl) (by decide) ?_
    refine x_aload_n dX12_told_68 rfl 0 rfl ?_
    refine x_iload_n dX12_told_69 rfl 1 rfl ?_
    obtain ⟨c21, H⟩ := ko_o H
    obtain ⟨v18, h19, hc20, H⟩ := bd_o H
    refine x_callVi (As := [.int x1]) (q := (RX12, TX12, 103)) dX12_told_70 mi_X12_baseOf lk_X12_412 im_X12_baseOf se_X12_baseOf rfl c21 rfl rfl (Nat.le_of_ble_eq_true rfl) (t_X12_baseOf (by omega) hc20) ?_
    obtain ⟨rfl, rfl⟩ := so_1 H
    exact x_iret dX12_told_73 rfl rfl
  replace H := ite_m H c17
  by_cases c22 : x2 = 3
  · replace H := ite_p H c22
    refine x_tableIn (tgt := 74) dX12_told_1 (by rw [c22]; decide) (by rw [c22]; decide) (by rw [c22]; rfl) (by decide) ?_
    refine x_aload_n dX12_told_74 rfl 0 rfl ?_
    refine x_iload_n dX12_told_75 rfl 1 rfl ?_
    obtain ⟨c26, H⟩ := ko_o H
    obtain ⟨v23, h24, hc25, H⟩ := bd_o H
    refine x_callVi (As := [.int x1]) (q := (RX12, TX12, 103)) dX12_told_76 mi_X12_lengthOf lk_X12_415 im_X12_lengthOf se_X12_lengthOf rfl c26 rfl rfl (Nat.le_of_ble_eq_true rfl) (t_X12_lengthOf (by omega) hc25) ?_
    obtain ⟨rfl, rfl⟩ := so_1 H
    exact x_iret dX12_told_79 rfl rfl
  replace H := ite_m H c22
  by_cases c27 : x2 = 4
  · replace H := ite_p H c27
    refine x_tableIn (tgt := 80) dX12_told_1 (by rw [c27]; decide) (by rw [c27]; decide) (by rw [c27]; rfl) (by decide) ?_
    refine x_aload_n dX12_told_80 rfl 0 rfl ?_
    obtain ⟨c28, H⟩ := ko_o H
    obtain ⟨a29, c30, H⟩ := kr_o H
    refine x_getR fr_X12_115 dX12_told_81 c28 rfl c30 ?_
    refine x_iload_n dX12_told_84 rfl 1 rfl ?_
    refine x_iconst (v := 2) dX12_told_85 (by decide) ?_
    refine x_iadd dX12_told_86 ?_
    obtain ⟨n32, c31, H⟩ := ka_o H
    obtain ⟨c33, H⟩ := chk_o H
    refine x_iald dX12_told_87 c31 (inb_in.mp c33) ?_
    obtain ⟨rfl, rfl⟩ := so_1 H
    exact x_iret dX12_told_88 rfl rfl
  replace H := ite_m H c27
  by_cases c34 : x2 = 5
  · replace H := ite_p H c34
    refine x_tableIn (tgt := 89) dX12_told_1 (by rw [c34]; decide) (by rw [c34]; decide) (by rw [c34]; rfl) (by decide) ?_
    refine x_aload_n dX12_told_89 rfl 0 rfl ?_
    obtain ⟨c35, H⟩ := ko_o H
    obtain ⟨a36, c37, H⟩ := kr_o H
    refine x_getR fr_X12_115 dX12_told_90 c35 rfl c37 ?_
    refine x_iload_n dX12_told_93 rfl 1 rfl ?_
    refine x_iconst (v := 3) dX12_told_94 (by decide) ?_
    refine x_iadd dX12_told_95 ?_
    obtain ⟨n39, c38, H⟩ := ka_o H
    obtain ⟨c40, H⟩ := chk_o H
    refine x_iald dX12_told_96 c38 (inb_in.mp c40) ?_
    obtain ⟨rfl, rfl⟩ := so_1 H
    exact x_iret dX12_told_97 rfl rfl
  replace H := ite_m H c34
  by_cases c41 : x2 = 6
  · replace H := ite_p H c41
    refine x_tableIn (tgt := 98) dX12_told_1 (by rw [c41]; decide) (by rw [c41]; decide) (by rw [c41]; rfl) (by decide) ?_
    refine x_aload_n dX12_told_98 rfl 0 rfl ?_
    obtain ⟨c42, H⟩ := ko_o H
    obtain ⟨a43, c44, H⟩ := kr_o H
    refine x_getR fr_X12_115 dX12_told_99 c42 rfl c44 ?_
    refine x_iload_n dX12_told_102 rfl 1 rfl ?_
    refine x_iconst (v := 4) dX12_told_103 (by decide) ?_
    refine x_iadd dX12_told_104 ?_
    obtain ⟨n46, c45, H⟩ := ka_o H
    obtain ⟨c47, H⟩ := chk_o H
    refine x_iald dX12_told_105 c45 (inb_in.mp c47) ?_
    obtain ⟨rfl, rfl⟩ := so_1 H
    exact x_iret dX12_told_106 rfl rfl
  replace H := ite_m H c41
  by_cases c48 : x2 = 7
  · replace H := ite_p H c48
    refine x_tableIn (tgt := 107) dX12_told_1 (by rw [c48]; decide) (by rw [c48]; decide) (by rw [c48]; rfl) (by decide) ?_
    refine x_aload_n dX12_told_107 rfl 0 rfl ?_
    obtain ⟨c49, H⟩ := ko_o H
    obtain ⟨a50, c51, H⟩ := kr_o H
    refine x_getR fr_X12_115 dX12_told_108 c49 rfl c51 ?_
    refine x_iload_n dX12_told_111 rfl 1 rfl ?_
    refine x_iconst (v := 5) dX12_told_112 (by decide) ?_
    refine x_iadd dX12_told_113 ?_
    obtain ⟨n53, c52, H⟩ := ka_o H
    obtain ⟨c54, H⟩ := chk_o H
    refine x_iald dX12_told_114 c52 (inb_in.mp c54) ?_
    obtain ⟨rfl, rfl⟩ := so_1 H
    exact x_iret dX12_told_115 rfl rfl
  replace H := ite_m H c48
  by_cases c55 : x2 = 8
  · replace H := ite_p H c55
    refine x_tableIn (tgt := 116) dX12_told_1 (by rw [c55]; decide) (by rw [c55]; decide) (by rw [c55]; rfl) (by decide) ?_
    refine x_aload_n dX12_told_116 rfl 0 rfl ?_
    obtain ⟨c56, H⟩ := ko_o H
    obtain ⟨a57, c58, H⟩ := kr_o H
    refine x_getR fr_X12_115 dX12_told_117 c56 rfl c58 ?_
    refine x_iload_n dX12_told_120 rfl 1 rfl ?_
    refine x_bipush (v := 6) dX12_told_121 (by decide) ?_
    refine x_iadd dX12_told_123 ?_
    obtain ⟨n60, c59, H⟩ := ka_o H
    obtain ⟨c61, H⟩ := chk_o H
    refine x_iald dX12_told_124 c59 (inb_in.mp c61) ?_
    obtain ⟨rfl, rfl⟩ := so_1 H
    exact x_iret dX12_told_125 rfl rfl
  replace H := ite_m H c55
  cases H
def f_X12_pointer_22 (s0 : Int32) (h : aH) : Option (Int32 × aH) :=
  some (s0, h)
set_option maxRecDepth 100000 in
set_option maxHeartbeats 4000000 in
theorem t_X12_pointer_22 {Γ : gS} {d : Nat} (hd : 6 ≤ d) {s0 : Int32} {h : aH} {r : Int32} {h' : aH} (H : f_X12_pointer_22 s0 h = some (r, h')) : Ex Γ gX12_pointer d 22 [] [.int s0] h (some (.int r)) h' := by
  unfold f_X12_pointer_22 at H
  obtain ⟨d, rfl⟩ : ∃ e, d = e + 1 := ⟨d - 1, by omega⟩
  obtain ⟨rfl, rfl⟩ := so_1 H
  exact x_iret dX12_pointer_22 rfl rfl
def f_X12_pointer (x0 : Nat) (x1 : Int32) (x2 : Int32) (h : aH) : Option (Int32 × aH) :=
  ko h x0 11 <|
  bd (f_X12_isPointer x0 x1.toInt64 h) fun v1 h2 =>
  if v1 = 0 then
    f_X12_pointer_22 (-1) h2
  else
    ko h2 x0 11 <|
    bd (f_X12_told x0 (8 * x1) x2 h2) fun v5 h6 =>
    f_X12_pointer_22 v5 h6
set_option maxRecDepth 100000 in
set_option maxHeartbeats 4000000 in
theorem t_X12_pointer {Γ : gS} {d : Nat} (hd : 6 ≤ d) {x0 : Nat} {x1 : Int32} {x2 : Int32} {h : aH} {r : Int32} {h' : aH} (H : f_X12_pointer x0 x1 x2 h = some (r, h')) : Mx Γ gX12_pointer d [.ref x0, .int x1, .int x2] h (some (.int r)) h' := by
  refine Mx.of (by decide +kernel) (Nat.le_of_ble_eq_true rfl) ?_
  unfold f_X12_pointer at H
  show Ex Γ gX12_pointer d 0 [(0, .ref x0), (1, .int x1), (2, .int x2)] [] h (some (.int r)) h'
  obtain ⟨d, rfl⟩ : ∃ e, d = e + 1 := ⟨d - 1, by omega⟩
  refine x_aload_n dX12_pointer_0 rfl 0 rfl ?_
  refine x_iload_n dX12_pointer_1 rfl 1 rfl ?_
  refine x_i2l dX12_pointer_2 ?_
  obtain ⟨c9, H⟩ := ko_o H
  obtain ⟨v1, h2, hc3, H⟩ := bd_o H
  refine x_callVi (As := [.long x1.toInt64]) (q := (RX12, TX12, 103)) dX12_pointer_3 mi_X12_isPointer lk_X12_418 im_X12_isPointer se_X12_isPointer rfl c9 rfl rfl (Nat.le_of_ble_eq_true rfl) (t_X12_isPointer (by omega) hc3) ?_
  refine x_if_eq (tgt := 21) dX12_pointer_6 (by decide) (fun c4 => ?_) (fun c4 => ?_)
  · replace H := ite_p H c4
    refine x_iconst (v := (-1)) dX12_pointer_21 (by decide) ?_
    refine Ex.sub [] rfl ?_
    exact t_X12_pointer_22 hd H
  · replace H := ite_m H c4
    refine x_aload_n dX12_pointer_9 rfl 0 rfl ?_
    refine x_bipush (v := 8) dX12_pointer_10 (by decide) ?_
    refine x_iload_n dX12_pointer_12 rfl 1 rfl ?_
    refine x_imul dX12_pointer_13 ?_
    refine x_iload_n dX12_pointer_14 rfl 2 rfl ?_
    obtain ⟨c8, H⟩ := ko_o H
    obtain ⟨v5, h6, hc7, H⟩ := bd_o H
    refine x_callVi (As := [.int (8 * x1), .int x2]) (q := (RX12, TX12, 103)) dX12_pointer_15 mi_X12_told lk_X12_477 im_X12_told se_X12_told rfl c8 rfl rfl (Nat.le_of_ble_eq_true rfl) (t_X12_told (by omega) hc7) ?_
    refine x_goto (tgt := 22) dX12_pointer_18 (by decide) ?_
    refine Ex.sub [] rfl ?_
    exact t_X12_pointer_22 hd H
def f_X12_shelfAt (x0 : Nat) (x1 : Int32) (x2 : Int32) (h : aH) : Option (Int32 × aH) :=
  some (128 + (8 * ((4 * x1) + x2)), h)
set_option maxRecDepth 100000 in
set_option maxHeartbeats 4000000 in
theorem t_X12_shelfAt {Γ : gS} {d : Nat} (hd : 0 ≤ d) {x0 : Nat} {x1 : Int32} {x2 : Int32} {h : aH} {r : Int32} {h' : aH} (H : f_X12_shelfAt x0 x1 x2 h = some (r, h')) : Mx Γ gX12_shelfAt d [.ref x0, .int x1, .int x2] h (some (.int r)) h' := by
  refine Mx.of (by decide +kernel) (Nat.le_of_ble_eq_true rfl) ?_
  unfold f_X12_shelfAt at H
  show Ex Γ gX12_shelfAt d 0 [(0, .ref x0), (1, .int x1), (2, .int x2)] [] h (some (.int r)) h'
  refine x_sipush (v := 128) dX12_shelfAt_0 (by decide) ?_
  refine x_bipush (v := 8) dX12_shelfAt_3 (by decide) ?_
  refine x_iconst (v := 4) dX12_shelfAt_5 (by decide) ?_
  refine x_iload_n dX12_shelfAt_6 rfl 1 rfl ?_
  refine x_imul dX12_shelfAt_7 ?_
  refine x_iload_n dX12_shelfAt_8 rfl 2 rfl ?_
  refine x_iadd dX12_shelfAt_9 ?_
  refine x_imul dX12_shelfAt_10 ?_
  refine x_iadd dX12_shelfAt_11 ?_
  obtain ⟨rfl, rfl⟩ := so_1 H
  exact x_iret dX12_shelfAt_12 rfl rfl
def f_X12_shelf_35 (h : aH) : Option (Int32 × aH) :=
  some ((-1), h)
set_option maxRecDepth 100000 in
set_option maxHeartbeats 4000000 in
theorem t_X12_shelf_35 {Γ : gS} {d : Nat} (hd : 6 ≤ d) {h : aH} {r : Int32} {h' : aH} (H : f_X12_shelf_35 h = some (r, h')) : Ex Γ gX12_shelf d 35 [] [] h (some (.int r)) h' := by
  unfold f_X12_shelf_35 at H
  obtain ⟨d, rfl⟩ : ∃ e, d = e + 1 := ⟨d - 1, by omega⟩
  refine x_iconst (v := (-1)) dX12_shelf_35 (by decide) ?_
  obtain ⟨rfl, rfl⟩ := so_1 H
  exact x_iret dX12_shelf_36 rfl rfl
def f_X12_shelf (x0 : Nat) (x1 : Int32) (x2 : Int32) (x3 : Int32) (h : aH) : Option (Int32 × aH) :=
  ko h x0 11 <|
  bd (f_X12_isShelf x0 x1 h) fun v1 h2 =>
  if v1 = 0 then
    f_X12_shelf_35 h2
  else
    bd (f_X12_isIn x2.toInt64 0 3 h2) fun v5 h6 =>
    if v5 = 0 then
      f_X12_shelf_35 h6
    else
      ko h6 x0 11 <|
      kr (hR h6 x0 47) fun a10 =>
      bd (f_X12_shelfAt x0 x1 x2 h6) fun v12 h13 =>
      ka h13 a10 .int fun n16 =>
      chk (inb v12 n16 = true) <|
      if (hI h13 a10 v12.toNatClampNeg) = (-1) then
        f_X12_shelf_35 h13
      else
        ko h13 x0 11 <|
        bd (f_X12_shelfAt x0 x1 x2 h13) fun v19 h20 =>
        ko h20 x0 11 <|
        bd (f_X12_told x0 v19 x3 h20) fun v22 h23 =>
        some (v22, h23)
set_option maxRecDepth 100000 in
set_option maxHeartbeats 4000000 in
theorem t_X12_shelf {Γ : gS} {d : Nat} (hd : 6 ≤ d) {x0 : Nat} {x1 : Int32} {x2 : Int32} {x3 : Int32} {h : aH} {r : Int32} {h' : aH} (H : f_X12_shelf x0 x1 x2 x3 h = some (r, h')) : Mx Γ gX12_shelf d [.ref x0, .int x1, .int x2, .int x3] h (some (.int r)) h' := by
  refine Mx.of (by decide +kernel) (Nat.le_of_ble_eq_true rfl) ?_
  unfold f_X12_shelf at H
  show Ex Γ gX12_shelf d 0 [(0, .ref x0), (1, .int x1), (2, .int x2), (3, .int x3)] [] h (some (.int r)) h'
  obtain ⟨d, rfl⟩ : ∃ e, d = e + 1 := ⟨d - 1, by omega⟩
  refine x_aload_n dX12_shelf_0 rfl 0 rfl ?_
  refine x_iload_n dX12_shelf_1 rfl 1 rfl ?_
  obtain ⟨c27, H⟩ := ko_o H
  obtain ⟨v1, h2, hc3, H⟩ := bd_o H
  refine x_callVi (As := [.int x1]) (q := (RX12, TX12, 103)) dX12_shelf_2 mi_X12_isShelf lk_X12_472 im_X12_isShelf se_X12_isShelf rfl c27 rfl rfl (Nat.le_of_ble_eq_true rfl) (t_X12_isShelf (by omega) hc3) ?_
  refine x_if_eq (tgt := 35) dX12_shelf_5 (by decide) (fun c4 => ?_) (fun c4 => ?_)
  · replace H := ite_p H c4
    refine Ex.sub [] rfl ?_
    exact t_X12_shelf_35 hd H
  · replace H := ite_m H c4
    refine x_iload_n dX12_shelf_8 rfl 2 rfl ?_
    refine x_i2l dX12_shelf_9 ?_
    refine x_lconst (v := 0) dX12_shelf_10 (by decide) ?_
    refine x_ldc2 kc_X12_286 dX12_shelf_11 ?_
    obtain ⟨v5, h6, hc7, H⟩ := bd_o H
    refine x_callSi (As := [.long x2.toInt64, .long 0, .long 3]) dX12_shelf_14 mi_X12_isIn lk_X12_268 sm_X12_isIn rfl rfl (Nat.le_of_ble_eq_true rfl) (t_X12_isIn (by omega) hc7) ?_
    refine x_if_eq (tgt := 35) dX12_shelf_17 (by decide) (fun c8 => ?_) (fun c8 => ?_)
    · replace H := ite_p H c8
      refine Ex.sub [] rfl ?_
      exact t_X12_shelf_35 hd H
    · replace H := ite_m H c8
      refine x_aload_n dX12_shelf_20 rfl 0 rfl ?_
      obtain ⟨c9, H⟩ := ko_o H
      obtain ⟨a10, c11, H⟩ := kr_o H
      refine x_getR fr_X12_115 dX12_shelf_21 c9 rfl c11 ?_
      refine x_aload_n dX12_shelf_24 rfl 0 rfl ?_
      refine x_iload_n dX12_shelf_25 rfl 1 rfl ?_
      refine x_iload_n dX12_shelf_26 rfl 2 rfl ?_
      obtain ⟨v12, h13, hc14, H⟩ := bd_o H
      refine x_callVi (As := [.int x1, .int x2]) (q := (RX12, TX12, 103)) dX12_shelf_27 mi_X12_shelfAt lk_X12_480 im_X12_shelfAt se_X12_shelfAt rfl c9 rfl rfl (Nat.le_of_ble_eq_true rfl) (t_X12_shelfAt (by omega) hc14) ?_
      obtain ⟨n16, c15, H⟩ := ka_o H
      obtain ⟨c17, H⟩ := chk_o H
      refine x_iald dX12_shelf_30 c15 (inb_in.mp c17) ?_
      refine x_iconst (v := (-1)) dX12_shelf_31 (by decide) ?_
      refine x_icmp_ne (tgt := 37) dX12_shelf_32 (by decide) (fun c18 => ?_) (fun c18 => ?_)
      · replace H := ite_m H c18
        refine x_aload_n dX12_shelf_37 rfl 0 rfl ?_
        refine x_aload_n dX12_shelf_38 rfl 0 rfl ?_
        refine x_iload_n dX12_shelf_39 rfl 1 rfl ?_
        refine x_iload_n dX12_shelf_40 rfl 2 rfl ?_
        obtain ⟨c26, H⟩ := ko_o H
        obtain ⟨v19, h20, hc21, H⟩ := bd_o H
        refine x_callVi (As := [.int x1, .int x2]) (q := (RX12, TX12, 103)) dX12_shelf_41 mi_X12_shelfAt lk_X12_480 im_X12_shelfAt se_X12_shelfAt rfl c26 rfl rfl (Nat.le_of_ble_eq_true rfl) (t_X12_shelfAt (by omega) hc21) ?_
        refine x_iload_n dX12_shelf_44 rfl 3 rfl ?_
        obtain ⟨c25, H⟩ := ko_o H
        obtain ⟨v22, h23, hc24, H⟩ := bd_o H
        refine x_callVi (As := [.int v19, .int x3]) (q := (RX12, TX12, 103)) dX12_shelf_45 mi_X12_told lk_X12_477 im_X12_told se_X12_told rfl c25 rfl rfl (Nat.le_of_ble_eq_true rfl) (t_X12_told (by omega) hc24) ?_
        obtain ⟨rfl, rfl⟩ := so_1 H
        exact x_iret dX12_shelf_48 rfl rfl
      · replace H := ite_p H c18
        refine Ex.sub [] rfl ?_
        exact t_X12_shelf_35 hd H
def f_X12_object_38 (s0 : Int32) (h : aH) : Option (Int32 × aH) :=
  some (s0, h)
set_option maxRecDepth 100000 in
set_option maxHeartbeats 4000000 in
theorem t_X12_object_38 {Γ : gS} {d : Nat} (hd : 1 ≤ d) {s0 : Int32} {h : aH} {r : Int32} {h' : aH} (H : f_X12_object_38 s0 h = some (r, h')) : Ex Γ gX12_object d 38 [] [.int s0] h (some (.int r)) h' := by
  unfold f_X12_object_38 at H
  obtain ⟨d, rfl⟩ : ∃ e, d = e + 1 := ⟨d - 1, by omega⟩
  obtain ⟨rfl, rfl⟩ := so_1 H
  exact x_iret dX12_object_38 rfl rfl
def f_X12_object_37 (h : aH) : Option (Int32 × aH) :=
  f_X12_object_38 (-1) h
set_option maxRecDepth 100000 in
set_option maxHeartbeats 4000000 in
theorem t_X12_object_37 {Γ : gS} {d : Nat} (hd : 1 ≤ d) {h : aH} {r : Int32} {h' : aH} (H : f_X12_object_37 h = some (r, h')) : Ex Γ gX12_object d 37 [] [] h (some (.int r)) h' := by
  unfold f_X12_object_37 at H
  obtain ⟨d, rfl⟩ : ∃ e, d = e + 1 := ⟨d - 1, by omega⟩
  refine x_iconst (v := (-1)) dX12_object_37 (by decide) ?_
  exact t_X12_object_38 hd H
def f_X12_object (x0 : Nat) (x1 : Int32) (x2 : Int32) (h : aH) : Option (Int32 × aH) :=
  ko h x0 11 <|
  bd (f_X12_objectMany x0 h) fun v1 h2 =>
  bd (f_X12_isIn x1.toInt64 0 ((v1 - 1 : Int32).toInt64) h2) fun v4 h5 =>
  if v4 = 0 then
    f_X12_object_37 h5
  else
    bd (f_X12_isIn x2.toInt64 0 2 h5) fun v8 h9 =>
    if v8 = 0 then
      f_X12_object_37 h9
    else
      ko h9 x0 11 <|
      bd (f_X12_objectOf x0 x1 x2 h9) fun v12 h13 =>
      f_X12_object_38 v12 h13
set_option maxRecDepth 100000 in
set_option maxHeartbeats 4000000 in
theorem t_X12_object {Γ : gS} {d : Nat} (hd : 1 ≤ d) {x0 : Nat} {x1 : Int32} {x2 : Int32} {h : aH} {r : Int32} {h' : aH} (H : f_X12_object x0 x1 x2 h = some (r, h')) : Mx Γ gX12_object d [.ref x0, .int x1, .int x2] h (some (.int r)) h' := by
  refine Mx.of (by decide +kernel) (Nat.le_of_ble_eq_true rfl) ?_
  unfold f_X12_object at H
  show Ex Γ gX12_object d 0 [(0, .ref x0), (1, .int x1), (2, .int x2)] [] h (some (.int r)) h'
  obtain ⟨d, rfl⟩ : ∃ e, d = e + 1 := ⟨d - 1, by omega⟩
  refine x_iload_n dX12_object_0 rfl 1 rfl ?_
  refine x_i2l dX12_object_1 ?_
  refine x_lconst (v := 0) dX12_object_2 (by decide) ?_
  refine x_aload_n dX12_object_3 rfl 0 rfl ?_
  obtain ⟨c16, H⟩ := ko_o H
  obtain ⟨v1, h2, hc3, H⟩ := bd_o H
  refine x_callVi (As := []) (q := (RX12, TX12, 103)) dX12_object_4 mi_X12_objectMany lk_X12_425 im_X12_objectMany se_X12_objectMany rfl c16 rfl rfl (Nat.le_of_ble_eq_true rfl) (t_X12_objectMany (by omega) hc3) ?_
  refine x_iconst (v := 1) dX12_object_7 (by decide) ?_
  refine x_isub dX12_object_8 ?_
  refine x_i2l dX12_object_9 ?_
  obtain ⟨v4, h5, hc6, H⟩ := bd_o H
  refine x_callSi (As := [.long x1.toInt64, .long 0, .long ((v1 - 1 : Int32).toInt64)]) dX12_object_10 mi_X12_isIn lk_X12_268 sm_X12_isIn rfl rfl (Nat.le_of_ble_eq_true rfl) (t_X12_isIn (by omega) hc6) ?_
  refine x_if_eq (tgt := 37) dX12_object_13 (by decide) (fun c7 => ?_) (fun c7 => ?_)
  · replace H := ite_p H c7
    refine Ex.sub [] rfl ?_
    exact t_X12_object_37 hd H
  · replace H := ite_m H c7
    refine x_iload_n dX12_object_16 rfl 2 rfl ?_
    refine x_i2l dX12_object_17 ?_
    refine x_lconst (v := 0) dX12_object_18 (by decide) ?_
    refine x_ldc2 kc_X12_483 dX12_object_19 ?_
    obtain ⟨v8, h9, hc10, H⟩ := bd_o H
    refine x_callSi (As := [.long x2.toInt64, .long 0, .long 2]) dX12_object_22 mi_X12_isIn lk_X12_268 sm_X12_isIn rfl rfl (Nat.le_of_ble_eq_true rfl) (t_X12_isIn (by omega) hc10) ?_
    refine x_if_eq (tgt := 37) dX12_object_25 (by decide) (fun c11 => ?_) (fun c11 => ?_)
    · replace H := ite_p H c11
      refine Ex.sub [] rfl ?_
      exact t_X12_object_37 hd H
    · replace H := ite_m H c11
      refine x_aload_n dX12_object_28 rfl 0 rfl ?_
      refine x_iload_n dX12_object_29 rfl 1 rfl ?_
      refine x_iload_n dX12_object_30 rfl 2 rfl ?_
      obtain ⟨c15, H⟩ := ko_o H
      obtain ⟨v12, h13, hc14, H⟩ := bd_o H
      refine x_callVi (As := [.int x1, .int x2]) (q := (RX12, TX12, 103)) dX12_object_31 mi_X12_objectOf lk_X12_428 im_X12_objectOf se_X12_objectOf rfl c15 rfl rfl (Nat.le_of_ble_eq_true rfl) (t_X12_objectOf (by omega) hc14) ?_
      refine x_goto (tgt := 38) dX12_object_34 (by decide) ?_
      refine Ex.sub [] rfl ?_
      exact t_X12_object_38 hd H
def f_X12_hole_44 (s0 : Int32) (h : aH) : Option (Int32 × aH) :=
  some (s0, h)
set_option maxRecDepth 100000 in
set_option maxHeartbeats 4000000 in
theorem t_X12_hole_44 {Γ : gS} {d : Nat} (hd : 2 ≤ d) {s0 : Int32} {h : aH} {r : Int32} {h' : aH} (H : f_X12_hole_44 s0 h = some (r, h')) : Ex Γ gX12_hole d 44 [] [.int s0] h (some (.int r)) h' := by
  unfold f_X12_hole_44 at H
  obtain ⟨d, rfl⟩ : ∃ e, d = e + 1 := ⟨d - 1, by omega⟩
  obtain ⟨rfl, rfl⟩ := so_1 H
  exact x_iret dX12_hole_44 rfl rfl
def f_X12_hole_43 (h : aH) : Option (Int32 × aH) :=
  f_X12_hole_44 (-1) h
set_option maxRecDepth 100000 in
set_option maxHeartbeats 4000000 in
theorem t_X12_hole_43 {Γ : gS} {d : Nat} (hd : 2 ≤ d) {h : aH} {r : Int32} {h' : aH} (H : f_X12_hole_43 h = some (r, h')) : Ex Γ gX12_hole d 43 [] [] h (some (.int r)) h' := by
  unfold f_X12_hole_43 at H
  obtain ⟨d, rfl⟩ : ∃ e, d = e + 1 := ⟨d - 1, by omega⟩
  refine x_iconst (v := (-1)) dX12_hole_43 (by decide) ?_
  exact t_X12_hole_44 hd H
def f_X12_hole (x0 : Nat) (x1 : Int32) (x2 : Int32) (h : aH) : Option (Int32 × aH) :=
  ko h x0 11 <|
  bd (f_X12_laysHoles x0 h) fun _ h2 =>
  ko h2 x0 11 <|
  bd (f_X12_isIn x1.toInt64 0 (((hI h2 x0 55) - 1 : Int32).toInt64) h2) fun v5 h6 =>
  if v5 = 0 then
    f_X12_hole_43 h6
  else
    bd (f_X12_isIn x2.toInt64 0 1 h6) fun v9 h10 =>
    if v9 = 0 then
      f_X12_hole_43 h10
    else
      ko h10 x0 11 <|
      kr (hR h10 x0 56) fun a14 =>
      ka h10 a14 .int fun n17 =>
      chk (inb ((2 * x1) + x2) n17 = true) <|
      f_X12_hole_44 (hI h10 a14 ((2 * x1) + x2 : Int32).toNatClampNeg) h10
set_option maxRecDepth 100000 in
set_option maxHeartbeats 4000000 in
theorem t_X12_hole {Γ : gS} {d : Nat} (hd : 2 ≤ d) {x0 : Nat} {x1 : Int32} {x2 : Int32} {h : aH} {r : Int32} {h' : aH} (H : f_X12_hole x0 x1 x2 h = some (r, h')) : Mx Γ gX12_hole d [.ref x0, .int x1, .int x2] h (some (.int r)) h' := by
  refine Mx.of (by decide +kernel) (Nat.le_of_ble_eq_true rfl) ?_
  unfold f_X12_hole at H
  show Ex Γ gX12_hole d 0 [(0, .ref x0), (1, .int x1), (2, .int x2)] [] h (some (.int r)) h'
  obtain ⟨d, rfl⟩ : ∃ e, d = e + 1 := ⟨d - 1, by omega⟩
  refine x_aload_n dX12_hole_0 rfl 0 rfl ?_
  obtain ⟨c19, H⟩ := ko_o H
  obtain ⟨v1, h2, hc3, H⟩ := bd_o H
  refine x_callVv (As := []) (q := (RX12, TX12, 103)) dX12_hole_1 mi_X12_laysHoles lk_X12_448 im_X12_laysHoles se_X12_laysHoles rfl c19 rfl rfl (Nat.le_of_ble_eq_true rfl) (t_X12_laysHoles (by omega) hc3) ?_
  refine x_iload_n dX12_hole_4 rfl 1 rfl ?_
  refine x_i2l dX12_hole_5 ?_
  refine x_lconst (v := 0) dX12_hole_6 (by decide) ?_
  refine x_aload_n dX12_hole_7 rfl 0 rfl ?_
  obtain ⟨c4, H⟩ := ko_o H
  refine x_getI fr_X12_422 dX12_hole_8 c4 rfl ?_
  refine x_iconst (v := 1) dX12_hole_11 (by decide) ?_
  refine x_isub dX12_hole_12 ?_
  refine x_i2l dX12_hole_13 ?_
  obtain ⟨v5, h6, hc7, H⟩ := bd_o H
  refine x_callSi (As := [.long x1.toInt64, .long 0, .long (((hI h2 x0 55) - 1 : Int32).toInt64)]) dX12_hole_14 mi_X12_isIn lk_X12_268 sm_X12_isIn rfl rfl (Nat.le_of_ble_eq_true rfl) (t_X12_isIn (by omega) hc7) ?_
  refine x_if_eq (tgt := 43) dX12_hole_17 (by decide) (fun c8 => ?_) (fun c8 => ?_)
  · replace H := ite_p H c8
    refine Ex.sub [] rfl ?_
    exact t_X12_hole_43 hd H
  · replace H := ite_m H c8
    refine x_iload_n dX12_hole_20 rfl 2 rfl ?_
    refine x_i2l dX12_hole_21 ?_
    refine x_lconst (v := 0) dX12_hole_22 (by decide) ?_
    refine x_lconst (v := 1) dX12_hole_23 (by decide) ?_
    obtain ⟨v9, h10, hc11, H⟩ := bd_o H
    refine x_callSi (As := [.long x2.toInt64, .long 0, .long 1]) dX12_hole_24 mi_X12_isIn lk_X12_268 sm_X12_isIn rfl rfl (Nat.le_of_ble_eq_true rfl) (t_X12_isIn (by omega) hc11) ?_
    refine x_if_eq (tgt := 43) dX12_hole_27 (by decide) (fun c12 => ?_) (fun c12 => ?_)
    · replace H := ite_p H c12
      refine Ex.sub [] rfl ?_
      exact t_X12_hole_43 hd H
    · replace H := ite_m H c12
      refine x_aload_n dX12_hole_30 rfl 0 rfl ?_
      obtain ⟨c13, H⟩ := ko_o H
      obtain ⟨a14, c15, H⟩ := kr_o H
      refine x_getR fr_X12_118 dX12_hole_31 c13 rfl c15 ?_
      refine x_iconst (v := 2) dX12_hole_34 (by decide) ?_
      refine x_iload_n dX12_hole_35 rfl 1 rfl ?_
      refine x_imul dX12_hole_36 ?_
      refine x_iload_n dX12_hole_37 rfl 2 rfl ?_
      refine x_iadd dX12_hole_38 ?_
      obtain ⟨n17, c16, H⟩ := ka_o H
      obtain ⟨c18, H⟩ := chk_o H
      refine x_iald dX12_hole_39 c16 (inb_in.mp c18) ?_
      refine x_goto (tgt := 44) dX12_hole_40 (by decide) ?_
      refine Ex.sub [] rfl ?_
      exact t_X12_hole_44 hd H
def f_X12_octetAt_32 (s0 : Int32) (h : aH) : Option (Int32 × aH) :=
  some (s0, h)
set_option maxRecDepth 100000 in
set_option maxHeartbeats 4000000 in
theorem t_X12_octetAt_32 {Γ : gS} {d : Nat} (hd : 1 ≤ d) {s0 : Int32} {h : aH} {r : Int32} {h' : aH} (H : f_X12_octetAt_32 s0 h = some (r, h')) : Ex Γ gX12_octetAt d 32 [] [.int s0] h (some (.int r)) h' := by
  unfold f_X12_octetAt_32 at H
  obtain ⟨d, rfl⟩ : ∃ e, d = e + 1 := ⟨d - 1, by omega⟩
  obtain ⟨rfl, rfl⟩ := so_1 H
  exact x_iret dX12_octetAt_32 rfl rfl
def f_X12_octetAt (x0 : Nat) (x1 : Int32) (h : aH) : Option (Int32 × aH) :=
  ko h x0 11 <|
  kr (hR h x0 37) fun a2 =>
  ka h a2 .int fun n5 =>
  chk (inb 3 n5 = true) <|
  bd (f_X12_isIn x1.toInt64 0 (((hI h a2 (3 : Int32).toNatClampNeg) - 1 : Int32).toInt64) h) fun v7 h8 =>
  if v7 = 0 then
    f_X12_octetAt_32 (-1) h8
  else
    ko h8 x0 11 <|
    kr (hR h8 x0 47) fun a12 =>
    ka h8 a12 .int fun n15 =>
    chk (inb (353 + x1) n15 = true) <|
    f_X12_octetAt_32 (hI h8 a12 (353 + x1 : Int32).toNatClampNeg) h8
set_option maxRecDepth 100000 in
set_option maxHeartbeats 4000000 in
theorem t_X12_octetAt {Γ : gS} {d : Nat} (hd : 1 ≤ d) {x0 : Nat} {x1 : Int32} {h : aH} {r : Int32} {h' : aH} (H : f_X12_octetAt x0 x1 h = some (r, h')) : Mx Γ gX12_octetAt d [.ref x0, .int x1] h (some (.int r)) h' := by
  refine Mx.of (by decide +kernel) (Nat.le_of_ble_eq_true rfl) ?_
  unfold f_X12_octetAt at H
  show Ex Γ gX12_octetAt d 0 [(0, .ref x0), (1, .int x1)] [] h (some (.int r)) h'
  obtain ⟨d, rfl⟩ : ∃ e, d = e + 1 := ⟨d - 1, by omega⟩
  refine x_iload_n dX12_octetAt_0 rfl 1 rfl ?_
  refine x_i2l dX12_octetAt_1 ?_
  refine x_lconst (v := 0) dX12_octetAt_2 (by decide) ?_
  refine x_aload_n dX12_octetAt_3 rfl 0 rfl ?_
  obtain ⟨c1, H⟩ := ko_o H
  obtain ⟨a2, c3, H⟩ := kr_o H
  refine x_getR fr_X12_96 dX12_octetAt_4 c1 rfl c3 ?_
  refine x_iconst (v := 3) dX12_octetAt_7 (by decide) ?_
  obtain ⟨n5, c4, H⟩ := ka_o H
  obtain ⟨c6, H⟩ := chk_o H
  refine x_iald dX12_octetAt_8 c4 (inb_in.mp c6) ?_
  refine x_iconst (v := 1) dX12_octetAt_9 (by decide) ?_
  refine x_isub dX12_octetAt_10 ?_
  refine x_i2l dX12_octetAt_11 ?_
  obtain ⟨v7, h8, hc9, H⟩ := bd_o H
  refine x_callSi (As := [.long x1.toInt64, .long 0, .long (((hI h a2 (3 : Int32).toNatClampNeg) - 1 : Int32).toInt64)]) dX12_octetAt_12 mi_X12_isIn lk_X12_268 sm_X12_isIn rfl rfl (Nat.le_of_ble_eq_true rfl) (t_X12_isIn (by omega) hc9) ?_
  refine x_if_eq (tgt := 31) dX12_octetAt_15 (by decide) (fun c10 => ?_) (fun c10 => ?_)
  · replace H := ite_p H c10
    refine x_iconst (v := (-1)) dX12_octetAt_31 (by decide) ?_
    refine Ex.sub [] rfl ?_
    exact t_X12_octetAt_32 hd H
  · replace H := ite_m H c10
    refine x_aload_n dX12_octetAt_18 rfl 0 rfl ?_
    obtain ⟨c11, H⟩ := ko_o H
    obtain ⟨a12, c13, H⟩ := kr_o H
    refine x_getR fr_X12_115 dX12_octetAt_19 c11 rfl c13 ?_
    refine x_sipush (v := 353) dX12_octetAt_22 (by decide) ?_
    refine x_iload_n dX12_octetAt_25 rfl 1 rfl ?_
    refine x_iadd dX12_octetAt_26 ?_
    obtain ⟨n15, c14, H⟩ := ka_o H
    obtain ⟨c16, H⟩ := chk_o H
    refine x_iald dX12_octetAt_27 c14 (inb_in.mp c16) ?_
    refine x_goto (tgt := 32) dX12_octetAt_28 (by decide) ?_
    refine Ex.sub [] rfl ?_
    exact t_X12_octetAt_32 hd H
def f_X12_kept_50 (s0 : Int32) (h : aH) : Option (Int32 × aH) :=
  some (s0, h)
set_option maxRecDepth 100000 in
set_option maxHeartbeats 4000000 in
theorem t_X12_kept_50 {Γ : gS} {d : Nat} (hd : 1 ≤ d) {s0 : Int32} {h : aH} {r : Int32} {h' : aH} (H : f_X12_kept_50 s0 h = some (r, h')) : Ex Γ gX12_kept d 50 [] [.int s0] h (some (.int r)) h' := by
  unfold f_X12_kept_50 at H
  obtain ⟨d, rfl⟩ : ∃ e, d = e + 1 := ⟨d - 1, by omega⟩
  obtain ⟨rfl, rfl⟩ := so_1 H
  exact x_iret dX12_kept_50 rfl rfl
def f_X12_kept_49 (h : aH) : Option (Int32 × aH) :=
  f_X12_kept_50 (-1) h
set_option maxRecDepth 100000 in
set_option maxHeartbeats 4000000 in
theorem t_X12_kept_49 {Γ : gS} {d : Nat} (hd : 1 ≤ d) {h : aH} {r : Int32} {h' : aH} (H : f_X12_kept_49 h = some (r, h')) : Ex Γ gX12_kept d 49 [] [] h (some (.int r)) h' := by
  unfold f_X12_kept_49 at H
  obtain ⟨d, rfl⟩ : ∃ e, d = e + 1 := ⟨d - 1, by omega⟩
  refine x_iconst (v := (-1)) dX12_kept_49 (by decide) ?_
  exact t_X12_kept_50 hd H
def f_X12_kept (x0 : Nat) (x1 : Int32) (x2 : Int32) (h : aH) : Option (Int32 × aH) :=
  ko h x0 11 <|
  kr (hR h x0 47) fun a2 =>
  ka h a2 .int fun n5 =>
  chk (inb 1377 n5 = true) <|
  bd (f_X12_isIn x1.toInt64 0 (((hI h a2 (1377 : Int32).toNatClampNeg) - 1 : Int32).toInt64) h) fun v7 h8 =>
  if v7 = 0 then
    f_X12_kept_49 h8
  else
    bd (f_X12_isIn x2.toInt64 0 2 h8) fun v11 h12 =>
    if v11 = 0 then
      f_X12_kept_49 h12
    else
      ko h12 x0 11 <|
      kr (hR h12 x0 47) fun a16 =>
      ka h12 a16 .int fun n19 =>
      chk (inb ((1378 + (3 * x1)) + x2) n19 = true) <|
      f_X12_kept_50 (hI h12 a16 ((1378 + (3 * x1)) + x2 : Int32).toNatClampNeg) h12
set_option maxRecDepth 100000 in
set_option maxHeartbeats 4000000 in
theorem t_X12_kept {Γ : gS} {d : Nat} (hd : 1 ≤ d) {x0 : Nat} {x1 : Int32} {x2 : Int32} {h : aH} {r : Int32} {h' : aH} (H : f_X12_kept x0 x1 x2 h = some (r, h')) : Mx Γ gX12_kept d [.ref x0, .int x1, .int x2] h (some (.int r)) h' := by
  refine Mx.of (by decide +kernel) (Nat.le_of_ble_eq_true rfl) ?_
  unfold f_X12_kept at H
  show Ex Γ gX12_kept d 0 [(0, .ref x0), (1, .int x1), (2, .int x2)] [] h (some (.int r)) h'
  obtain ⟨d, rfl⟩ : ∃ e, d = e + 1 := ⟨d - 1, by omega⟩
  refine x_iload_n dX12_kept_0 rfl 1 rfl ?_
  refine x_i2l dX12_kept_1 ?_
  refine x_lconst (v := 0) dX12_kept_2 (by decide) ?_
  refine x_aload_n dX12_kept_3 rfl 0 rfl ?_
  obtain ⟨c1, H⟩ := ko_o H
  obtain ⟨a2, c3, H⟩ := kr_o H
  refine x_getR fr_X12_115 dX12_kept_4 c1 rfl c3 ?_
  refine x_sipush (v := 1377) dX12_kept_7 (by decide) ?_
  obtain ⟨n5, c4, H⟩ := ka_o H
  obtain ⟨c6, H⟩ := chk_o H
  refine x_iald dX12_kept_10 c4 (inb_in.mp c6) ?_
  refine x_iconst (v := 1) dX12_kept_11 (by decide) ?_
  refine x_isub dX12_kept_12 ?_
  refine x_i2l dX12_kept_13 ?_
  obtain ⟨v7, h8, hc9, H⟩ := bd_o H
  refine x_callSi (As := [.long x1.toInt64, .long 0, .long (((hI h a2 (1377 : Int32).toNatClampNeg) - 1 : Int32).toInt64)]) dX12_kept_14 mi_X12_isIn lk_X12_268 sm_X12_isIn rfl rfl (Nat.le_of_ble_eq_true rfl) (t_X12_isIn (by omega) hc9) ?_
  refine x_if_eq (tgt := 49) dX12_kept_17 (by decide) (fun c10 => ?_) (fun c10 => ?_)
  · replace H := ite_p H c10
    refine Ex.sub [] rfl ?_
    exact t_X12_kept_49 hd H
  · replace H := ite_m H c10
    refine x_iload_n dX12_kept_20 rfl 2 rfl ?_
    refine x_i2l dX12_kept_21 ?_
    refine x_lconst (v := 0) dX12_kept_22 (by decide) ?_
    refine x_ldc2 kc_X12_483 dX12_kept_23 ?_
    obtain ⟨v11, h12, hc13, H⟩ := bd_o H
    refine x_callSi (As := [.long x2.toInt64, .long 0, .long 2]) dX12_kept_26 mi_X12_isIn lk_X12_268 sm_X12_isIn rfl rfl (Nat.le_of_ble_eq_true rfl) (t_X12_isIn (by omega) hc13) ?_
    refine x_if_eq (tgt := 49) dX12_kept_29 (by decide) (fun c14 => ?_) (fun c14 => ?_)
    · replace H := ite_p H c14
      refine Ex.sub [] rfl ?_
      exact t_X12_kept_49 hd H
    · replace H := ite_m H c14
      refine x_aload_n dX12_kept_32 rfl 0 rfl ?_
      obtain ⟨c15, H⟩ := ko_o H
      obtain ⟨a16, c17, H⟩ := kr_o H
      refine x_getR fr_X12_115 dX12_kept_33 c15 rfl c17 ?_
      refine x_sipush (v := 1378) dX12_kept_36 (by decide) ?_
      refine x_iconst (v := 3) dX12_kept_39 (by decide) ?_
      refine x_iload_n dX12_kept_40 rfl 1 rfl ?_
      refine x_imul dX12_kept_41 ?_
      refine x_iadd dX12_kept_42 ?_
      refine x_iload_n dX12_kept_43 rfl 2 rfl ?_
      refine x_iadd dX12_kept_44 ?_
      obtain ⟨n19, c18, H⟩ := ka_o H
      obtain ⟨c20, H⟩ := chk_o H
      refine x_iald dX12_kept_45 c18 (inb_in.mp c20) ?_
      refine x_goto (tgt := 50) dX12_kept_46 (by decide) ?_
      refine Ex.sub [] rfl ?_
      exact t_X12_kept_50 hd H
def f_X12_areBounds_38 (s0 : Int32) (h : aH) : Option (Int32 × aH) :=
  chk (narrow .boolean (.int s0) = .int s0) <|
  some (s0, h)
set_option maxRecDepth 100000 in
set_option maxHeartbeats 4000000 in
theorem t_X12_areBounds_38 {Γ : gS} {d : Nat} (hd : 1 ≤ d) {s0 : Int32} {h : aH} {r : Int32} {h' : aH} (H : f_X12_areBounds_38 s0 h = some (r, h')) : Ex Γ gX12_areBounds d 38 [] [.int s0] h (some (.int r)) h' := by
  unfold f_X12_areBounds_38 at H
  obtain ⟨d, rfl⟩ : ∃ e, d = e + 1 := ⟨d - 1, by omega⟩
  obtain ⟨c1, H⟩ := chk_o H
  obtain ⟨rfl, rfl⟩ := so_1 H
  exact x_iret dX12_areBounds_38 rfl c1
def f_X12_areBounds_37 (h : aH) : Option (Int32 × aH) :=
  f_X12_areBounds_38 0 h
set_option maxRecDepth 100000 in
set_option maxHeartbeats 4000000 in
theorem t_X12_areBounds_37 {Γ : gS} {d : Nat} (hd : 1 ≤ d) {h : aH} {r : Int32} {h' : aH} (H : f_X12_areBounds_37 h = some (r, h')) : Ex Γ gX12_areBounds d 37 [] [] h (some (.int r)) h' := by
  unfold f_X12_areBounds_37 at H
  obtain ⟨d, rfl⟩ : ∃ e, d = e + 1 := ⟨d - 1, by omega⟩
  refine x_iconst (v := 0) dX12_areBounds_37 (by decide) ?_
  exact t_X12_areBounds_38 hd H
def f_X12_areBounds (x0 : Nat) (x1 : Int32) (x2 : Int32) (h : aH) : Option (Int32 × aH) :=
  bd (f_X12_isIn x1.toInt64 0 4096 h) fun v2 h3 =>
  if v2 = 0 then
    f_X12_areBounds_37 h3
  else
    bd (f_X12_isIn x2.toInt64 0 4096 h3) fun v6 h7 =>
    if v6 = 0 then
      f_X12_areBounds_37 h7
    else
      if 4096 < (x1 + x2) then
        f_X12_areBounds_37 h7
      else
        f_X12_areBounds_38 1 h7
set_option maxRecDepth 100000 in
set_option maxHeartbeats 4000000 in
theorem t_X12_areBounds {Γ : gS} {d : Nat} (hd : 1 ≤ d) {x0 : Nat} {x1 : Int32} {x2 : Int32} {h : aH} {r : Int32} {h' : aH} (H : f_X12_areBounds x0 x1 x2 h = some (r, h')) : Mx Γ gX12_areBounds d [.ref x0, .int x1, .int x2] h (some (.int r)) h' := by
  refine Mx.of (by decide +kernel) (Nat.le_of_ble_eq_true rfl) ?_
  unfold f_X12_areBounds at H
  show Ex Γ gX12_areBounds d 0 [(0, .ref x0), (1, .int x1), (2, .int x2)] [] h (some (.int r)) h'
  obtain ⟨d, rfl⟩ : ∃ e, d = e + 1 := ⟨d - 1, by omega⟩
  refine x_iload_n dX12_areBounds_0 rfl 1 rfl ?_
  refine x_i2l dX12_areBounds_1 ?_
  refine x_lconst (v := 0) dX12_areBounds_2 (by decide) ?_
  refine x_ldc2 kc_X12_485 dX12_areBounds_3 ?_
  obtain ⟨v2, h3, hc4, H⟩ := bd_o H
  refine x_callSi (As := [.long x1.toInt64, .long 0, .long 4096]) dX12_areBounds_6 mi_X12_isIn lk_X12_268 sm_X12_isIn rfl rfl (Nat.le_of_ble_eq_true rfl) (t_X12_isIn (by omega) hc4) ?_
  refine x_if_eq (tgt := 37) dX12_areBounds_9 (by decide) (fun c5 => ?_) (fun c5 => ?_)
  · replace H := ite_p H c5
    refine Ex.sub [] rfl ?_
    exact t_X12_areBounds_37 hd H
  · replace H := ite_m H c5
    refine x_iload_n dX12_areBounds_12 rfl 2 rfl ?_
    refine x_i2l dX12_areBounds_13 ?_
    refine x_lconst (v := 0) dX12_areBounds_14 (by decide) ?_
    refine x_ldc2 kc_X12_485 dX12_areBounds_15 ?_
    obtain ⟨v6, h7, hc8, H⟩ := bd_o H
    refine x_callSi (As := [.long x2.toInt64, .long 0, .long 4096]) dX12_areBounds_18 mi_X12_isIn lk_X12_268 sm_X12_isIn rfl rfl (Nat.le_of_ble_eq_true rfl) (t_X12_isIn (by omega) hc8) ?_
    refine x_if_eq (tgt := 37) dX12_areBounds_21 (by decide) (fun c9 => ?_) (fun c9 => ?_)
    · replace H := ite_p H c9
      refine Ex.sub [] rfl ?_
      exact t_X12_areBounds_37 hd H
    · replace H := ite_m H c9
      refine x_iload_n dX12_areBounds_24 rfl 1 rfl ?_
      refine x_iload_n dX12_areBounds_25 rfl 2 rfl ?_
      refine x_iadd dX12_areBounds_26 ?_
      refine x_sipush (v := 4096) dX12_areBounds_27 (by decide) ?_
      refine x_icmp_gt (tgt := 37) dX12_areBounds_30 (by decide) (fun c10 => ?_) (fun c10 => ?_)
      · replace H := ite_p H c10
        refine Ex.sub [] rfl ?_
        exact t_X12_areBounds_37 hd H
      · replace H := ite_m H c10
        refine x_iconst (v := 1) dX12_areBounds_33 (by decide) ?_
        refine x_goto (tgt := 38) dX12_areBounds_34 (by decide) ?_
        refine Ex.sub [] rfl ?_
        exact t_X12_areBounds_38 hd H
def f_X12_isExact_23 (s0 : Int32) (h : aH) : Option (Int32 × aH) :=
  chk (narrow .boolean (.int s0) = .int s0) <|
  some (s0, h)
set_option maxRecDepth 100000 in
set_option maxHeartbeats 4000000 in
theorem t_X12_isExact_23 {Γ : gS} {d : Nat} (hd : 0 ≤ d) {s0 : Int32} {h : aH} {r : Int32} {h' : aH} (H : f_X12_isExact_23 s0 h = some (r, h')) : Ex Γ gX12_isExact d 23 [] [.int s0] h (some (.int r)) h' := by
  unfold f_X12_isExact_23 at H
  obtain ⟨c1, H⟩ := chk_o H
  obtain ⟨rfl, rfl⟩ := so_1 H
  exact x_iret dX12_isExact_23 rfl c1
def f_X12_isExact_22 (h : aH) : Option (Int32 × aH) :=
  f_X12_isExact_23 0 h
set_option maxRecDepth 100000 in
set_option maxHeartbeats 4000000 in
theorem t_X12_isExact_22 {Γ : gS} {d : Nat} (hd : 0 ≤ d) {h : aH} {r : Int32} {h' : aH} (H : f_X12_isExact_22 h = some (r, h')) : Ex Γ gX12_isExact d 22 [] [] h (some (.int r)) h' := by
  unfold f_X12_isExact_22 at H
  refine x_iconst (v := 0) dX12_isExact_22 (by decide) ?_
  exact t_X12_isExact_23 hd H
def f_X12_isExact (x0 : Nat) (x1 : Int32) (x2 : Int32) (h : aH) : Option (Int32 × aH) :=
  ko h x0 11 <|
  if (hI h x0 53) = x1 then
    if (hI h x0 54) = (x1 + x2) then
      f_X12_isExact_23 1 h
    else
      f_X12_isExact_22 h
  else
    f_X12_isExact_22 h
set_option maxRecDepth 100000 in
set_option maxHeartbeats 4000000 in
theorem t_X12_isExact {Γ : gS} {d : Nat} (hd : 0 ≤ d) {x0 : Nat} {x1 : Int32} {x2 : Int32} {h : aH} {r : Int32} {h' : aH} (H : f_X12_isExact x0 x1 x2 h = some (r, h')) : Mx Γ gX12_isExact d [.ref x0, .int x1, .int x2] h (some (.int r)) h' := by
  refine Mx.of (by decide +kernel) (Nat.le_of_ble_eq_true rfl) ?_
  unfold f_X12_isExact at H
  show Ex Γ gX12_isExact d 0 [(0, .ref x0), (1, .int x1), (2, .int x2)] [] h (some (.int r)) h'
  refine x_aload_n dX12_isExact_0 rfl 0 rfl ?_
  obtain ⟨c2, H⟩ := ko_o H
  refine x_getI fr_X12_390 dX12_isExact_1 c2 rfl ?_
  refine x_iload_n dX12_isExact_4 rfl 1 rfl ?_
  refine x_icmp_ne (tgt := 22) dX12_isExact_5 (by decide) (fun c3 => ?_) (fun c3 => ?_)
  · replace H := ite_m H c3
    refine Ex.sub [] rfl ?_
    exact t_X12_isExact_22 hd H
  · replace H := ite_p H c3
    refine x_aload_n dX12_isExact_8 rfl 0 rfl ?_
    refine x_getI fr_X12_393 dX12_isExact_9 c2 rfl ?_
    refine x_iload_n dX12_isExact_12 rfl 1 rfl ?_
    refine x_iload_n dX12_isExact_13 rfl 2 rfl ?_
    refine x_iadd dX12_isExact_14 ?_
    refine x_icmp_ne (tgt := 22) dX12_isExact_15 (by decide) (fun c4 => ?_) (fun c4 => ?_)
    · replace H := ite_m H c4
      refine Ex.sub [] rfl ?_
      exact t_X12_isExact_22 hd H
    · replace H := ite_p H c4
      refine x_iconst (v := 1) dX12_isExact_18 (by decide) ?_
      refine x_goto (tgt := 23) dX12_isExact_19 (by decide) ?_
      refine Ex.sub [] rfl ?_
      exact t_X12_isExact_23 hd H
def f_X12_rounds_28 (h : aH) : Option (Int32 × aH) :=
  some ((-1), h)
set_option maxRecDepth 100000 in
set_option maxHeartbeats 4000000 in
theorem t_X12_rounds_28 {Γ : gS} {d : Nat} (hd : 2 ≤ d) {h : aH} {r : Int32} {h' : aH} (H : f_X12_rounds_28 h = some (r, h')) : Ex Γ gX12_rounds d 28 [] [] h (some (.int r)) h' := by
  unfold f_X12_rounds_28 at H
  obtain ⟨d, rfl⟩ : ∃ e, d = e + 1 := ⟨d - 1, by omega⟩
  refine x_iconst (v := (-1)) dX12_rounds_28 (by decide) ?_
  obtain ⟨rfl, rfl⟩ := so_1 H
  exact x_iret dX12_rounds_29 rfl rfl
def f_X12_rounds_90 (s0 : Int32) (h : aH) : Option (Int32 × aH) :=
  some (s0, h)
set_option maxRecDepth 100000 in
set_option maxHeartbeats 4000000 in
theorem t_X12_rounds_90 {Γ : gS} {d : Nat} (hd : 2 ≤ d) {s0 : Int32} {h : aH} {r : Int32} {h' : aH} (H : f_X12_rounds_90 s0 h = some (r, h')) : Ex Γ gX12_rounds d 90 [] [.int s0] h (some (.int r)) h' := by
  unfold f_X12_rounds_90 at H
  obtain ⟨d, rfl⟩ : ∃ e, d = e + 1 := ⟨d - 1, by omega⟩
  obtain ⟨rfl, rfl⟩ := so_1 H
  exact x_iret dX12_rounds_90 rfl rfl
def f_X12_rounds (x0 : Nat) (x1 : Int32) (x2 : Int32) (x3 : Int32) (h : aH) : Option (Int32 × aH) :=
  ko h x0 11 <|
  if (hI h x0 45) = 0 then
    f_X12_rounds_28 h
  else
    bd (f_X12_areBounds x0 x1 x2 h) fun v3 h4 =>
    if v3 = 0 then
      f_X12_rounds_28 h4
    else
      bd (f_X12_isIn x3.toInt64 0 3 h4) fun v7 h8 =>
      if v7 = 0 then
        f_X12_rounds_28 h8
      else
        ko h8 x0 11 <|
        bd (f_X12_encodes x0 x1 x2 h8) fun _ h12 =>
        if x3 = 0 then
          ko h12 x0 11 <|
          f_X12_rounds_90 (hI h12 x0 52) h12
        else
          if x3 = 1 then
            ko h12 x0 11 <|
            f_X12_rounds_90 (hI h12 x0 53) h12
          else
            if x3 = 2 then
              ko h12 x0 11 <|
              f_X12_rounds_90 ((hI h12 x0 54) - (hI h12 x0 53)) h12
            else
              ko h12 x0 11 <|
              bd (f_X12_isExact x0 x1 x2 h12) fun v17 h18 =>
              if v17 = 0 then
                f_X12_rounds_90 0 h18
              else
                f_X12_rounds_90 1 h18
set_option maxRecDepth 100000 in
set_option maxHeartbeats 4000000 in
theorem t_X12_rounds {Γ : gS} {d : Nat} (hd : 2 ≤ d) {x0 : Nat} {x1 : Int32} {x2 : Int32} {x3 : Int32} {h : aH} {r : Int32} {h' : aH} (H : f_X12_rounds x0 x1 x2 x3 h = some (r, h')) : Mx Γ gX12_rounds d [.ref x0, .int x1, .int x2, .int x3] h (some (.int r)) h' := by
  refine Mx.of (by decide +kernel) (Nat.le_of_ble_eq_true rfl) ?_
  unfold f_X12_rounds at H
  show Ex Γ gX12_rounds d 0 [(0, .ref x0), (1, .int x1), (2, .int x2), (3, .int x3)] [] h (some (.int r)) h'
  obtain ⟨d, rfl⟩ : ∃ e, d = e + 1 := ⟨d - 1, by omega⟩
  refine x_aload_n dX12_rounds_0 rfl 0 rfl ?_
  obtain ⟨c1, H⟩ := ko_o H
  refine x_getI fr_X12_352 dX12_rounds_1 c1 rfl ?_
  refine x_if_eq (tgt := 28) dX12_rounds_4 (by decide) (fun c2 => ?_) (fun c2 => ?_)
  · replace H := ite_p H c2
    refine Ex.sub [] rfl ?_
    exact t_X12_rounds_28 hd H
  · replace H := ite_m H c2
    refine x_aload_n dX12_rounds_7 rfl 0 rfl ?_
    refine x_iload_n dX12_rounds_8 rfl 1 rfl ?_
    refine x_iload_n dX12_rounds_9 rfl 2 rfl ?_
    obtain ⟨v3, h4, hc5, H⟩ := bd_o H
    refine x_callVi (As := [.int x1, .int x2]) (q := (RX12, TX12, 103)) dX12_rounds_10 mi_X12_areBounds lk_X12_487 im_X12_areBounds se_X12_areBounds rfl c1 rfl rfl (Nat.le_of_ble_eq_true rfl) (t_X12_areBounds (by omega) hc5) ?_
    refine x_if_eq (tgt := 28) dX12_rounds_13 (by decide) (fun c6 => ?_) (fun c6 => ?_)
    · replace H := ite_p H c6
      refine Ex.sub [] rfl ?_
      exact t_X12_rounds_28 hd H
    · replace H := ite_m H c6
      refine x_iload_n dX12_rounds_16 rfl 3 rfl ?_
      refine x_i2l dX12_rounds_17 ?_
      refine x_lconst (v := 0) dX12_rounds_18 (by decide) ?_
      refine x_ldc2 kc_X12_286 dX12_rounds_19 ?_
      obtain ⟨v7, h8, hc9, H⟩ := bd_o H
      refine x_callSi (As := [.long x3.toInt64, .long 0, .long 3]) dX12_rounds_22 mi_X12_isIn lk_X12_268 sm_X12_isIn rfl rfl (Nat.le_of_ble_eq_true rfl) (t_X12_isIn (by omega) hc9) ?_
      refine x_if_ne (tgt := 30) dX12_rounds_25 (by decide) (fun c10 => ?_) (fun c10 => ?_)
      · replace H := ite_m H c10
        refine x_aload_n dX12_rounds_30 rfl 0 rfl ?_
        refine x_iload_n dX12_rounds_31 rfl 1 rfl ?_
        refine x_iload_n dX12_rounds_32 rfl 2 rfl ?_
        obtain ⟨c25, H⟩ := ko_o H
        obtain ⟨v11, h12, hc13, H⟩ := bd_o H
        refine x_callVv (As := [.int x1, .int x2]) (q := (RX12, TX12, 103)) dX12_rounds_33 mi_X12_encodes lk_X12_356 im_X12_encodes se_X12_encodes rfl c25 rfl rfl (Nat.le_of_ble_eq_true rfl) (t_X12_encodes (by omega) hc13) ?_
        refine x_iload_n dX12_rounds_36 rfl 3 rfl ?_
        refine x_if_ne (tgt := 47) dX12_rounds_37 (by decide) (fun c14 => ?_) (fun c14 => ?_)
        · replace H := ite_m H c14
          refine x_iload_n dX12_rounds_47 rfl 3 rfl ?_
          refine x_iconst (v := 1) dX12_rounds_48 (by decide) ?_
          refine x_icmp_ne (tgt := 59) dX12_rounds_49 (by decide) (fun c15 => ?_) (fun c15 => ?_)
          · replace H := ite_m H c15
            refine x_iload_n dX12_rounds_59 rfl 3 rfl ?_
            refine x_iconst (v := 2) dX12_rounds_60 (by decide) ?_
            refine x_icmp_ne (tgt := 76) dX12_rounds_61 (by decide) (fun c16 => ?_) (fun c16 => ?_)
            · replace H := ite_m H c16
              refine x_aload_n dX12_rounds_76 rfl 0 rfl ?_
              refine x_iload_n dX12_rounds_77 rfl 1 rfl ?_
              refine x_iload_n dX12_rounds_78 rfl 2 rfl ?_
              obtain ⟨c21, H⟩ := ko_o H
              obtain ⟨v17, h18, hc19, H⟩ := bd_o H
              refine x_callVi (As := [.int x1, .int x2]) (q := (RX12, TX12, 103)) dX12_rounds_79 mi_X12_isExact lk_X12_491 im_X12_isExact se_X12_isExact rfl c21 rfl rfl (Nat.le_of_ble_eq_true rfl) (t_X12_isExact (by omega) hc19) ?_
              refine x_if_eq (tgt := 89) dX12_rounds_82 (by decide) (fun c20 => ?_) (fun c20 => ?_)
              · replace H := ite_p H c20
                refine x_iconst (v := 0) dX12_rounds_89 (by decide) ?_
                refine Ex.sub [] rfl ?_
                exact t_X12_rounds_90 hd H
              · replace H := ite_m H c20
                refine x_iconst (v := 1) dX12_rounds_85 (by decide) ?_
                refine x_goto (tgt := 90) dX12_rounds_86 (by decide) ?_
                refine Ex.sub [] rfl ?_
                exact t_X12_rounds_90 hd H
            · replace H := ite_p H c16
              refine x_aload_n dX12_rounds_64 rfl 0 rfl ?_
              obtain ⟨c22, H⟩ := ko_o H
              refine x_getI fr_X12_393 dX12_rounds_65 c22 rfl ?_
              refine x_aload_n dX12_rounds_68 rfl 0 rfl ?_
              refine x_getI fr_X12_390 dX12_rounds_69 c22 rfl ?_
              refine x_isub dX12_rounds_72 ?_
              refine x_goto (tgt := 90) dX12_rounds_73 (by decide) ?_
              refine Ex.sub [] rfl ?_
              exact t_X12_rounds_90 hd H
          · replace H := ite_p H c15
            refine x_aload_n dX12_rounds_52 rfl 0 rfl ?_
            obtain ⟨c23, H⟩ := ko_o H
            refine x_getI fr_X12_390 dX12_rounds_53 c23 rfl ?_
            refine x_goto (tgt := 90) dX12_rounds_56 (by decide) ?_
            refine Ex.sub [] rfl ?_
            exact t_X12_rounds_90 hd H
        · replace H := ite_p H c14
          refine x_aload_n dX12_rounds_40 rfl 0 rfl ?_
          obtain ⟨c24, H⟩ := ko_o H
          refine x_getI fr_X12_387 dX12_rounds_41 c24 rfl ?_
          refine x_goto (tgt := 90) dX12_rounds_44 (by decide) ?_
          refine Ex.sub [] rfl ?_
          exact t_X12_rounds_90 hd H
      · replace H := ite_p H c10
        refine Ex.sub [] rfl ?_
        exact t_X12_rounds_28 hd H
def b_X12_exact_13 (k13 : Nat → Int32 → Int32 → Int32 → aH → Option (Int32 × aH)) (x0 : Nat) (x1 : Int32) (x2 : Int32) (x3 : Int32) (h : aH) : Option (Int32 × aH) :=
  if 8 < x3 then
    some ((-1), h)
  else
    ko h x0 11 <|
    bd (f_X12_encodesBy x0 x3 x1 x2 h) fun _ h3 =>
    ko h3 x0 11 <|
    bd (f_X12_isExact x0 x1 x2 h3) fun v5 h6 =>
    if v5 = 0 then
      nm (x3 + 1) fun (v9 : Int32) =>
      k13 x0 x1 x2 v9 h6
    else
      some (x3, h6)
set_option maxRecDepth 100000 in
set_option maxHeartbeats 4000000 in
theorem tb_X12_exact_13 {Γ : gS} {d : Nat} (hd : 2 ≤ d) {k13 : Nat → Int32 → Int32 → Int32 → aH → Option (Int32 × aH)} (hk13 : ∀ {x0 : Nat} {x1 : Int32} {x2 : Int32} {x3 : Int32} {h : aH} {r : Int32} {h' : aH}, k13 x0 x1 x2 x3 h = some (r, h') → Ex Γ gX12_exact d 13 [(0, .ref x0), (1, .int x1), (2, .int x2), (3, .int x3)] [] h (some (.int r)) h') {x0 : Nat} {x1 : Int32} {x2 : Int32} {x3 : Int32} {h : aH} {r : Int32} {h' : aH} (H : b_X12_exact_13 k13 x0 x1 x2 x3 h = some (r, h')) : Ex Γ gX12_exact d 13 [(0, .ref x0), (1, .int x1), (2, .int x2), (3, .int x3)] [] h (some (.int r)) h' := by
  unfold b_X12_exact_13 at H
  obtain ⟨d, rfl⟩ : ∃ e, d = e + 1 := ⟨d - 1, by omega⟩
  refine x_iload_n dX12_exact_13 rfl 3 rfl ?_
  refine x_bipush (v := 8) dX12_exact_14 (by decide) ?_
  refine x_icmp_gt (tgt := 43) dX12_exact_16 (by decide) (fun c1 => ?_) (fun c1 => ?_)
  · replace H := ite_p H c1
    refine x_iconst (v := (-1)) dX12_exact_43 (by decide) ?_
    obtain ⟨rfl, rfl⟩ := so_1 H
    exact x_iret dX12_exact_44 rfl rfl
  · replace H := ite_m H c1
    refine x_aload_n dX12_exact_19 rfl 0 rfl ?_
    refine x_iload_n dX12_exact_20 rfl 3 rfl ?_
    refine x_iload_n dX12_exact_21 rfl 1 rfl ?_
    refine x_iload_n dX12_exact_22 rfl 2 rfl ?_
    obtain ⟨c11, H⟩ := ko_o H
    obtain ⟨v2, h3, hc4, H⟩ := bd_o H
    refine x_callVv (As := [.int x3, .int x1, .int x2]) (q := (RX12, TX12, 103)) dX12_exact_23 mi_X12_encodesBy lk_X12_399 im_X12_encodesBy se_X12_encodesBy rfl c11 rfl rfl (Nat.le_of_ble_eq_true rfl) (t_X12_encodesBy (by omega) hc4) ?_
    refine x_aload_n dX12_exact_26 rfl 0 rfl ?_
    refine x_iload_n dX12_exact_27 rfl 1 rfl ?_
    refine x_iload_n dX12_exact_28 rfl 2 rfl ?_
    obtain ⟨c10, H⟩ := ko_o H
    obtain ⟨v5, h6, hc7, H⟩ := bd_o H
    refine x_callVi (As := [.int x1, .int x2]) (q := (RX12, TX12, 103)) dX12_exact_29 mi_X12_isExact lk_X12_491 im_X12_isExact se_X12_isExact rfl c10 rfl rfl (Nat.le_of_ble_eq_true rfl) (t_X12_isExact (by omega) hc7) ?_
    refine x_if_eq (tgt := 37) dX12_exact_32 (by decide) (fun c8 => ?_) (fun c8 => ?_)
    · replace H := ite_p H c8
      obtain ⟨v9, ev9, H⟩ := nm_o H
      refine x_iinc (v := v9) (lv' := [(3, .int v9), (0, .ref x0), (1, .int x1), (2, .int x2)]) dX12_exact_37 3 rfl (by decide) ev9 rfl ?_
      refine x_goto (tgt := 13) dX12_exact_40 (by decide) ?_
      refine Ex.sub [1, 2, 3, 0] rfl ?_
      exact hk13 H
    · replace H := ite_m H c8
      refine x_iload_n dX12_exact_35 rfl 3 rfl ?_
      obtain ⟨rfl, rfl⟩ := so_1 H
      exact x_iret dX12_exact_36 rfl rfl
def f_X12_exact_13 : Nat → Nat → Int32 → Int32 → Int32 → aH → Option (Int32 × aH)
  | 0 => fun _ _ _ _ _ => none
  | n + 1 => b_X12_exact_13 (f_X12_exact_13 n)
set_option maxRecDepth 100000 in
set_option maxHeartbeats 4000000 in
theorem t_X12_exact_13 {Γ : gS} {d : Nat} (hd : 2 ≤ d) (n : Nat) : ∀ {x0 : Nat} {x1 : Int32} {x2 : Int32} {x3 : Int32} {h : aH} {r : Int32} {h' : aH}, f_X12_exact_13 n x0 x1 x2 x3 h = some (r, h') → Ex Γ gX12_exact d 13 [(0, .ref x0), (1, .int x1), (2, .int x2), (3, .int x3)] [] h (some (.int r)) h' := by
  induction n with
  | zero => intro x0 x1 x2 x3 h r h' H; cases H
  | succ n ih => intro x0 x1 x2 x3 h r h' H; exact tb_X12_exact_13 hd ih H
def f_X12_exact (x0 : Nat) (x1 : Int32) (x2 : Int32) (h : aH) : Option (Int32 × aH) :=
  ko h x0 11 <|
  bd (f_X12_areBounds x0 x1 x2 h) fun v12 h13 =>
  if v12 = 0 then
    some ((-1), h13)
  else
    f_X12_exact_13 FU x0 x1 x2 4 h13
set_option maxRecDepth 100000 in
set_option maxHeartbeats 4000000 in
theorem t_X12_exact {Γ : gS} {d : Nat} (hd : 2 ≤ d) {x0 : Nat} {x1 : Int32} {x2 : Int32} {h : aH} {r : Int32} {h' : aH} (H : f_X12_exact x0 x1 x2 h = some (r, h')) : Mx Γ gX12_exact d [.ref x0, .int x1, .int x2] h (some (.int r)) h' := by
  refine Mx.of (by decide +kernel) (Nat.le_of_ble_eq_true rfl) ?_
  unfold f_X12_exact at H
  show Ex Γ gX12_exact d 0 [(0, .ref x0), (1, .int x1), (2, .int x2)] [] h (some (.int r)) h'
  obtain ⟨d, rfl⟩ : ∃ e, d = e + 1 := ⟨d - 1, by omega⟩
  refine x_aload_n dX12_exact_0 rfl 0 rfl ?_
  refine x_iload_n dX12_exact_1 rfl 1 rfl ?_
  refine x_iload_n dX12_exact_2 rfl 2 rfl ?_
  obtain ⟨c16, H⟩ := ko_o H
  obtain ⟨v12, h13, hc14, H⟩ := bd_o H
  refine x_callVi (As := [.int x1, .int x2]) (q := (RX12, TX12, 103)) dX12_exact_3 mi_X12_areBounds lk_X12_487 im_X12_areBounds se_X12_areBounds rfl c16 rfl rfl (Nat.le_of_ble_eq_true rfl) (t_X12_areBounds (by omega) hc14) ?_
  refine x_if_ne (tgt := 11) dX12_exact_6 (by decide) (fun c15 => ?_) (fun c15 => ?_)
  · replace H := ite_m H c15
    refine x_iconst (v := 4) dX12_exact_11 (by decide) ?_
    refine x_istore_n (lv' := [(3, .int 4), (0, .ref x0), (1, .int x1), (2, .int x2)]) dX12_exact_12 rfl (by decide) rfl rfl ?_
    refine Ex.sub [1, 2, 3, 0] rfl ?_
    exact t_X12_exact_13 hd FU H
  · replace H := ite_p H c15
    refine x_iconst (v := (-1)) dX12_exact_9 (by decide) ?_
    obtain ⟨rfl, rfl⟩ := so_1 H
    exact x_iret dX12_exact_10 rfl rfl
def f_X12_fits_44 (s0 : Int32) (h : aH) : Option (Int32 × aH) :=
  some (s0, h)
set_option maxRecDepth 100000 in
set_option maxHeartbeats 4000000 in
theorem t_X12_fits_44 {Γ : gS} {d : Nat} (hd : 6 ≤ d) {s0 : Int32} {h : aH} {r : Int32} {h' : aH} (H : f_X12_fits_44 s0 h = some (r, h')) : Ex Γ gX12_fits d 44 [] [.int s0] h (some (.int r)) h' := by
  unfold f_X12_fits_44 at H
  obtain ⟨d, rfl⟩ : ∃ e, d = e + 1 := ⟨d - 1, by omega⟩
  obtain ⟨rfl, rfl⟩ := so_1 H
  exact x_iret dX12_fits_44 rfl rfl
def f_X12_fits_23 (h : aH) : Option (Int32 × aH) :=
  f_X12_fits_44 (-1) h
set_option maxRecDepth 100000 in
set_option maxHeartbeats 4000000 in
theorem t_X12_fits_23 {Γ : gS} {d : Nat} (hd : 6 ≤ d) {h : aH} {r : Int32} {h' : aH} (H : f_X12_fits_23 h = some (r, h')) : Ex Γ gX12_fits d 23 [] [] h (some (.int r)) h' := by
  unfold f_X12_fits_23 at H
  obtain ⟨d, rfl⟩ : ∃ e, d = e + 1 := ⟨d - 1, by omega⟩
  refine x_iconst (v := (-1)) dX12_fits_23 (by decide) ?_
  refine x_goto (tgt := 44) dX12_fits_24 (by decide) ?_
  exact t_X12_fits_44 hd H
def f_X12_fits (x0 : Nat) (x1 : Int32) (x2 : Int32) (h : aH) : Option (Int32 × aH) :=
  ko h x0 11 <|
  bd (f_X12_isPointer x0 x1.toInt64 h) fun v1 h2 =>
  if v1 = 0 then
    f_X12_fits_23 h2
  else
    bd (f_X12_isIn x2.toInt64 (-4095) 4095 h2) fun v5 h6 =>
    if v5 = 0 then
      f_X12_fits_23 h6
    else
      ko h6 x0 11 <|
      bd (f_X12_doesFit x0 (8 * x1) x2 h6) fun v9 h10 =>
      if v9 = 0 then
        f_X12_fits_44 0 h10
      else
        f_X12_fits_44 1 h10
set_option maxRecDepth 100000 in
set_option maxHeartbeats 4000000 in
theorem t_X12_fits {Γ : gS} {d : Nat} (hd : 6 ≤ d) {x0 : Nat} {x1 : Int32} {x2 : Int32} {h : aH} {r : Int32} {h' : aH} (H : f_X12_fits x0 x1 x2 h = some (r, h')) : Mx Γ gX12_fits d [.ref x0, .int x1, .int x2] h (some (.int r)) h' := by
  refine Mx.of (by decide +kernel) (Nat.le_of_ble_eq_true rfl) ?_
  unfold f_X12_fits at H
  show Ex Γ gX12_fits d 0 [(0, .ref x0), (1, .int x1), (2, .int x2)] [] h (some (.int r)) h'
  obtain ⟨d, rfl⟩ : ∃ e, d = e + 1 := ⟨d - 1, by omega⟩
  refine x_aload_n dX12_fits_0 rfl 0 rfl ?_
  refine x_iload_n dX12_fits_1 rfl 1 rfl ?_
  refine x_i2l dX12_fits_2 ?_
  obtain ⟨c14, H⟩ := ko_o H
  obtain ⟨v1, h2, hc3, H⟩ := bd_o H
  refine x_callVi (As := [.long x1.toInt64]) (q := (RX12, TX12, 103)) dX12_fits_3 mi_X12_isPointer lk_X12_418 im_X12_isPointer se_X12_isPointer rfl c14 rfl rfl (Nat.le_of_ble_eq_true rfl) (t_X12_isPointer (by omega) hc3) ?_
  refine x_if_eq (tgt := 23) dX12_fits_6 (by decide) (fun c4 => ?_) (fun c4 => ?_)
  · replace H := ite_p H c4
    refine Ex.sub [] rfl ?_
    exact t_X12_fits_23 hd H
  · replace H := ite_m H c4
    refine x_iload_n dX12_fits_9 rfl 2 rfl ?_
    refine x_i2l dX12_fits_10 ?_
    refine x_ldc2 kc_X12_494 dX12_fits_11 ?_
    refine x_ldc2 kc_X12_496 dX12_fits_14 ?_
    obtain ⟨v5, h6, hc7, H⟩ := bd_o H
    refine x_callSi (As := [.long x2.toInt64, .long (-4095), .long 4095]) dX12_fits_17 mi_X12_isIn lk_X12_268 sm_X12_isIn rfl rfl (Nat.le_of_ble_eq_true rfl) (t_X12_isIn (by omega) hc7) ?_
    refine x_if_ne (tgt := 27) dX12_fits_20 (by decide) (fun c8 => ?_) (fun c8 => ?_)
    · replace H := ite_m H c8
      refine x_aload_n dX12_fits_27 rfl 0 rfl ?_
      refine x_bipush (v := 8) dX12_fits_28 (by decide) ?_
      refine x_iload_n dX12_fits_30 rfl 1 rfl ?_
      refine x_imul dX12_fits_31 ?_
      refine x_iload_n dX12_fits_32 rfl 2 rfl ?_
      obtain ⟨c13, H⟩ := ko_o H
      obtain ⟨v9, h10, hc11, H⟩ := bd_o H
      refine x_callVi (As := [.int (8 * x1), .int x2]) (q := (RX12, TX12, 103)) dX12_fits_33 mi_X12_doesFit lk_X12_498 im_X12_doesFit se_X12_doesFit rfl c13 rfl rfl (Nat.le_of_ble_eq_true rfl) (t_X12_doesFit (by omega) hc11) ?_
      refine x_if_eq (tgt := 43) dX12_fits_36 (by decide) (fun c12 => ?_) (fun c12 => ?_)
      · replace H := ite_p H c12
        refine x_iconst (v := 0) dX12_fits_43 (by decide) ?_
        refine Ex.sub [] rfl ?_
        exact t_X12_fits_44 hd H
      · replace H := ite_m H c12
        refine x_iconst (v := 1) dX12_fits_39 (by decide) ?_
        refine x_goto (tgt := 44) dX12_fits_40 (by decide) ?_
        refine Ex.sub [] rfl ?_
        exact t_X12_fits_44 hd H
    · replace H := ite_p H c8
      refine Ex.sub [] rfl ?_
      exact t_X12_fits_23 hd H
def f_X12_quick_44 (s0 : Int32) (h : aH) : Option (Int32 × aH) :=
  some (s0, h)
set_option maxRecDepth 100000 in
set_option maxHeartbeats 4000000 in
theorem t_X12_quick_44 {Γ : gS} {d : Nat} (hd : 4 ≤ d) {s0 : Int32} {h : aH} {r : Int32} {h' : aH} (H : f_X12_quick_44 s0 h = some (r, h')) : Ex Γ gX12_quick d 44 [] [.int s0] h (some (.int r)) h' := by
  unfold f_X12_quick_44 at H
  obtain ⟨d, rfl⟩ : ∃ e, d = e + 1 := ⟨d - 1, by omega⟩
  obtain ⟨rfl, rfl⟩ := so_1 H
  exact x_iret dX12_quick_44 rfl rfl
def f_X12_quick_23 (h : aH) : Option (Int32 × aH) :=
  f_X12_quick_44 (-1) h
set_option maxRecDepth 100000 in
set_option maxHeartbeats 4000000 in
theorem t_X12_quick_23 {Γ : gS} {d : Nat} (hd : 4 ≤ d) {h : aH} {r : Int32} {h' : aH} (H : f_X12_quick_23 h = some (r, h')) : Ex Γ gX12_quick d 23 [] [] h (some (.int r)) h' := by
  unfold f_X12_quick_23 at H
  obtain ⟨d, rfl⟩ : ∃ e, d = e + 1 := ⟨d - 1, by omega⟩
  refine x_iconst (v := (-1)) dX12_quick_23 (by decide) ?_
  refine x_goto (tgt := 44) dX12_quick_24 (by decide) ?_
  exact t_X12_quick_44 hd H
def f_X12_quick (x0 : Nat) (x1 : Int32) (x2 : Int32) (h : aH) : Option (Int32 × aH) :=
  ko h x0 11 <|
  bd (f_X12_isPointer x0 x1.toInt64 h) fun v1 h2 =>
  if v1 = 0 then
    f_X12_quick_23 h2
  else
    bd (f_X12_isIn x2.toInt64 (-4095) 4095 h2) fun v5 h6 =>
    if v5 = 0 then
      f_X12_quick_23 h6
    else
      ko h6 x0 11 <|
      bd (f_X12_isQuick x0 (8 * x1) x2 h6) fun v9 h10 =>
      if v9 = 0 then
        f_X12_quick_44 0 h10
      else
        f_X12_quick_44 1 h10
set_option maxRecDepth 100000 in
set_option maxHeartbeats 4000000 in
theorem t_X12_quick {Γ : gS} {d : Nat} (hd : 4 ≤ d) {x0 : Nat} {x1 : Int32} {x2 : Int32} {h : aH} {r : Int32} {h' : aH} (H : f_X12_quick x0 x1 x2 h = some (r, h')) : Mx Γ gX12_quick d [.ref x0, .int x1, .int x2] h (some (.int r)) h' := by
  refine Mx.of (by decide +kernel) (Nat.le_of_ble_eq_true rfl) ?_
  unfold f_X12_quick at H
  show Ex Γ gX12_quick d 0 [(0, .ref x0), (1, .int x1), (2, .int x2)] [] h (some (.int r)) h'
  obtain ⟨d, rfl⟩ : ∃ e, d = e + 1 := ⟨d - 1, by omega⟩
  refine x_aload_n dX12_quick_0 rfl 0 rfl ?_
  refine x_iload_n dX12_quick_1 rfl 1 rfl ?_
  refine x_i2l dX12_quick_2 ?_
  obtain ⟨c14, H⟩ := ko_o H
  obtain ⟨v1, h2, hc3, H⟩ := bd_o H
  refine x_callVi (As := [.long x1.toInt64]) (q := (RX12, TX12, 103)) dX12_quick_3 mi_X12_isPointer lk_X12_418 im_X12_isPointer se_X12_isPointer rfl c14 rfl rfl (Nat.le_of_ble_eq_true rfl) (t_X12_isPointer (by omega) hc3) ?_
  refine x_if_eq (tgt := 23) dX12_quick_6 (by decide) (fun c4 => ?_) (fun c4 => ?_)
  · replace H := ite_p H c4
    refine Ex.sub [] rfl ?_
    exact t_X12_quick_23 hd H
  · replace H := ite_m H c4
    refine x_iload_n dX12_quick_9 rfl 2 rfl ?_
    refine x_i2l dX12_quick_10 ?_
    refine x_ldc2 kc_X12_494 dX12_quick_11 ?_
    refine x_ldc2 kc_X12_496 dX12_quick_14 ?_
    obtain ⟨v5, h6, hc7, H⟩ := bd_o H
    refine x_callSi (As := [.long x2.toInt64, .long (-4095), .long 4095]) dX12_quick_17 mi_X12_isIn lk_X12_268 sm_X12_isIn rfl rfl (Nat.le_of_ble_eq_true rfl) (t_X12_isIn (by omega) hc7) ?_
    refine x_if_ne (tgt := 27) dX12_quick_20 (by decide) (fun c8 => ?_) (fun c8 => ?_)
    · replace H := ite_m H c8
      refine x_aload_n dX12_quick_27 rfl 0 rfl ?_
      refine x_bipush (v := 8) dX12_quick_28 (by decide) ?_
      refine x_iload_n dX12_quick_30 rfl 1 rfl ?_
      refine x_imul dX12_quick_31 ?_
      refine x_iload_n dX12_quick_32 rfl 2 rfl ?_
      obtain ⟨c13, H⟩ := ko_o H
      obtain ⟨v9, h10, hc11, H⟩ := bd_o H
      refine x_callVi (As := [.int (8 * x1), .int x2]) (q := (RX12, TX12, 103)) dX12_quick_33 mi_X12_isQuick lk_X12_501 im_X12_isQuick se_X12_isQuick rfl c13 rfl rfl (Nat.le_of_ble_eq_true rfl) (t_X12_isQuick (by omega) hc11) ?_
      refine x_if_eq (tgt := 43) dX12_quick_36 (by decide) (fun c12 => ?_) (fun c12 => ?_)
      · replace H := ite_p H c12
        refine x_iconst (v := 0) dX12_quick_43 (by decide) ?_
        refine Ex.sub [] rfl ?_
        exact t_X12_quick_44 hd H
      · replace H := ite_m H c12
        refine x_iconst (v := 1) dX12_quick_39 (by decide) ?_
        refine x_goto (tgt := 44) dX12_quick_40 (by decide) ?_
        refine Ex.sub [] rfl ?_
        exact t_X12_quick_44 hd H
    · replace H := ite_p H c8
      refine Ex.sub [] rfl ?_
      exact t_X12_quick_23 hd H
def f_X12_window_19 (h : aH) : Option (Int32 × aH) :=
  some ((-1), h)
set_option maxRecDepth 100000 in
set_option maxHeartbeats 4000000 in
theorem t_X12_window_19 {Γ : gS} {d : Nat} (hd : 6 ≤ d) {h : aH} {r : Int32} {h' : aH} (H : f_X12_window_19 h = some (r, h')) : Ex Γ gX12_window d 19 [] [] h (some (.int r)) h' := by
  unfold f_X12_window_19 at H
  obtain ⟨d, rfl⟩ : ∃ e, d = e + 1 := ⟨d - 1, by omega⟩
  refine x_iconst (v := (-1)) dX12_window_19 (by decide) ?_
  obtain ⟨rfl, rfl⟩ := so_1 H
  exact x_iret dX12_window_20 rfl rfl
def f_X12_window_62 (k32 : Nat → Int32 → Int32 → Int32 → Int32 → aH → Option (Int32 × aH)) (x0 : Nat) (x2 : Int32) (x3 : Int32) (x4 : Int32) (x5 : Int32) (h : aH) : Option (Int32 × aH) :=
  nm (x5 + 1) fun (v1 : Int32) =>
  k32 x0 x2 x3 x4 v1 h
set_option maxRecDepth 100000 in
set_option maxHeartbeats 4000000 in
theorem t_X12_window_62 {Γ : gS} {d : Nat} (hd : 6 ≤ d) {k32 : Nat → Int32 → Int32 → Int32 → Int32 → aH → Option (Int32 × aH)} (hk32 : ∀ {x0 : Nat} {x2 : Int32} {x3 : Int32} {x4 : Int32} {x5 : Int32} {h : aH} {r : Int32} {h' : aH}, k32 x0 x2 x3 x4 x5 h = some (r, h') → Ex Γ gX12_window d 32 [(0, .ref x0), (2, .int x2), (3, .int x3), (4, .int x4), (5, .int x5)] [] h (some (.int r)) h') {x0 : Nat} {x2 : Int32} {x3 : Int32} {x4 : Int32} {x5 : Int32} {h : aH} {r : Int32} {h' : aH} (H : f_X12_window_62 k32 x0 x2 x3 x4 x5 h = some (r, h')) : Ex Γ gX12_window d 62 [(0, .ref x0), (2, .int x2), (3, .int x3), (4, .int x4), (5, .int x5)] [] h (some (.int r)) h' := by
  unfold f_X12_window_62 at H
  obtain ⟨d, rfl⟩ : ∃ e, d = e + 1 := ⟨d - 1, by omega⟩
  obtain ⟨v1, ev1, H⟩ := nm_o H
  refine x_iinc (v := v1) (lv' := [(5, .int v1), (0, .ref x0), (2, .int x2), (3, .int x3), (4, .int x4)]) dX12_window_62 4 rfl (by decide) ev1 rfl ?_
  refine x_goto (tgt := 32) dX12_window_65 (by decide) ?_
  refine Ex.sub [1, 2, 3, 4, 0] rfl ?_
  exact hk32 H
def f_X12_window_107 (k72 : Nat → Int32 → Int32 → Int32 → Int32 → aH → Option (Int32 × aH)) (x0 : Nat) (x2 : Int32) (x3 : Int32) (x4 : Int32) (x5 : Int32) (h : aH) : Option (Int32 × aH) :=
  nm (x5 + 1) fun (v2 : Int32) =>
  k72 x0 x2 x3 x4 v2 h
set_option maxRecDepth 100000 in
set_option maxHeartbeats 4000000 in
theorem t_X12_window_107 {Γ : gS} {d : Nat} (hd : 6 ≤ d) {k72 : Nat → Int32 → Int32 → Int32 → Int32 → aH → Option (Int32 × aH)} (hk72 : ∀ {x0 : Nat} {x2 : Int32} {x3 : Int32} {x4 : Int32} {x5 : Int32} {h : aH} {r : Int32} {h' : aH}, k72 x0 x2 x3 x4 x5 h = some (r, h') → Ex Γ gX12_window d 72 [(0, .ref x0), (2, .int x2), (3, .int x3), (4, .int x4), (5, .int x5)] [] h (some (.int r)) h') {x0 : Nat} {x2 : Int32} {x3 : Int32} {x4 : Int32} {x5 : Int32} {h : aH} {r : Int32} {h' : aH} (H : f_X12_window_107 k72 x0 x2 x3 x4 x5 h = some (r, h')) : Ex Γ gX12_window d 107 [(0, .ref x0), (2, .int x2), (3, .int x3), (4, .int x4), (5, .int x5)] [] h (some (.int r)) h' := by
  unfold f_X12_window_107 at H
  obtain ⟨d, rfl⟩ : ∃ e, d = e + 1 := ⟨d - 1, by omega⟩
  obtain ⟨v2, ev2, H⟩ := nm_o H
  refine x_iinc (v := v2) (lv' := [(5, .int v2), (0, .ref x0), (2, .int x2), (3, .int x3), (4, .int x4)]) dX12_window_107 4 rfl (by decide) ev2 rfl ?_
  refine x_goto (tgt := 72) dX12_window_110 (by decide) ?_
  refine Ex.sub [1, 2, 3, 4, 0] rfl ?_
  exact hk72 H
def f_X12_window_113 (x4 : Int32) (h : aH) : Option (Int32 × aH) :=
  some (x4, h)
set_option maxRecDepth 100000 in
set_option maxHeartbeats 4000000 in
theorem t_X12_window_113 {Γ : gS} {d : Nat} (hd : 6 ≤ d) {x4 : Int32} {h : aH} {r : Int32} {h' : aH} (H : f_X12_window_113 x4 h = some (r, h')) : Ex Γ gX12_window d 113 [(4, .int x4)] [] h (some (.int r)) h' := by
  unfold f_X12_window_113 at H
  obtain ⟨d, rfl⟩ : ∃ e, d = e + 1 := ⟨d - 1, by omega⟩
  refine x_iload dX12_window_113 0 rfl ?_
  obtain ⟨rfl, rfl⟩ := so_1 H
  exact x_iret dX12_window_115 rfl rfl
def b_X12_window_72 (k72 : Nat → Int32 → Int32 → Int32 → Int32 → aH → Option (Int32 × aH)) (x0 : Nat) (x2 : Int32) (x3 : Int32) (x4 : Int32) (x5 : Int32) (h : aH) : Option (Int32 × aH) :=
  if 64 ≤ x5 then
    f_X12_window_113 x4 h
  else
    if x2 = 1 then
      ko h x0 11 <|
      bd (f_X12_doesFit x0 x3 x5 h) fun v5 h6 =>
      if v5 = 0 then
        f_X12_window_107 k72 x0 x2 x3 x4 x5 h6
      else
        ko h6 x0 11 <|
        bd (f_X12_isQuick x0 x3 x5 h6) fun v9 h10 =>
        if v9 = 0 then
          nm (x4 + 1) fun (v13 : Int32) =>
          f_X12_window_107 k72 x0 x2 x3 v13 x5 h10
        else
          f_X12_window_107 k72 x0 x2 x3 x4 x5 h10
    else
      f_X12_window_113 x4 h
set_option maxRecDepth 100000 in
set_option maxHeartbeats 4000000 in
theorem tb_X12_window_72 {Γ : gS} {d : Nat} (hd : 6 ≤ d) {k72 : Nat → Int32 → Int32 → Int32 → Int32 → aH → Option (Int32 × aH)} (hk72 : ∀ {x0 : Nat} {x2 : Int32} {x3 : Int32} {x4 : Int32} {x5 : Int32} {h : aH} {r : Int32} {h' : aH}, k72 x0 x2 x3 x4 x5 h = some (r, h') → Ex Γ gX12_window d 72 [(0, .ref x0), (2, .int x2), (3, .int x3), (4, .int x4), (5, .int x5)] [] h (some (.int r)) h') {x0 : Nat} {x2 : Int32} {x3 : Int32} {x4 : Int32} {x5 : Int32} {h : aH} {r : Int32} {h' : aH} (H : b_X12_window_72 k72 x0 x2 x3 x4 x5 h = some (r, h')) : Ex Γ gX12_window d 72 [(0, .ref x0), (2, .int x2), (3, .int x3), (4, .int x4), (5, .int x5)] [] h (some (.int r)) h' := by
  unfold b_X12_window_72 at H
  obtain ⟨d, rfl⟩ : ∃ e, d = e + 1 := ⟨d - 1, by omega⟩
  refine x_iload dX12_window_72 4 rfl ?_
  refine x_bipush (v := 64) dX12_window_74 (by decide) ?_
  refine x_icmp_ge (tgt := 113) dX12_window_76 (by decide) (fun c3 => ?_) (fun c3 => ?_)
  · replace H := ite_p H c3
    refine Ex.sub [3] rfl ?_
    exact t_X12_window_113 hd H
  · replace H := ite_m H c3
    refine x_iload_n dX12_window_79 rfl 1 rfl ?_
    refine x_iconst (v := 1) dX12_window_80 (by decide) ?_
    refine x_icmp_ne (tgt := 113) dX12_window_81 (by decide) (fun c4 => ?_) (fun c4 => ?_)
    · replace H := ite_m H c4
      refine Ex.sub [3] rfl ?_
      exact t_X12_window_113 hd H
    · replace H := ite_p H c4
      refine x_aload_n dX12_window_84 rfl 0 rfl ?_
      refine x_iload_n dX12_window_85 rfl 2 rfl ?_
      refine x_iload dX12_window_86 4 rfl ?_
      obtain ⟨c15, H⟩ := ko_o H
      obtain ⟨v5, h6, hc7, H⟩ := bd_o H
      refine x_callVi (As := [.int x3, .int x5]) (q := (RX12, TX12, 103)) dX12_window_88 mi_X12_doesFit lk_X12_498 im_X12_doesFit se_X12_doesFit rfl c15 rfl rfl (Nat.le_of_ble_eq_true rfl) (t_X12_doesFit (by omega) hc7) ?_
      refine x_if_eq (tgt := 107) dX12_window_91 (by decide) (fun c8 => ?_) (fun c8 => ?_)
      · replace H := ite_p H c8
        exact t_X12_window_107 hd hk72 H
      · replace H := ite_m H c8
        refine x_aload_n dX12_window_94 rfl 0 rfl ?_
        refine x_iload_n dX12_window_95 rfl 2 rfl ?_
        refine x_iload dX12_window_96 4 rfl ?_
        obtain ⟨c14, H⟩ := ko_o H
        obtain ⟨v9, h10, hc11, H⟩ := bd_o H
        refine x_callVi (As := [.int x3, .int x5]) (q := (RX12, TX12, 103)) dX12_window_98 mi_X12_isQuick lk_X12_501 im_X12_isQuick se_X12_isQuick rfl c14 rfl rfl (Nat.le_of_ble_eq_true rfl) (t_X12_isQuick (by omega) hc11) ?_
        refine x_if_ne (tgt := 107) dX12_window_101 (by decide) (fun c12 => ?_) (fun c12 => ?_)
        · replace H := ite_m H c12
          exact t_X12_window_107 hd hk72 H
        · replace H := ite_p H c12
          obtain ⟨v13, ev13, H⟩ := nm_o H
          refine x_iinc (v := v13) (lv' := [(4, .int v13), (0, .ref x0), (2, .int x2), (3, .int x3), (5, .int x5)]) dX12_window_104 3 rfl (by decide) ev13 rfl ?_
          refine Ex.sub [1, 2, 3, 0, 4] rfl ?_
          exact t_X12_window_107 hd hk72 H
def f_X12_window_72 : Nat → Nat → Int32 → Int32 → Int32 → Int32 → aH → Option (Int32 × aH)
  | 0 => fun _ _ _ _ _ _ => none
  | n + 1 => b_X12_window_72 (f_X12_window_72 n)
set_option maxRecDepth 100000 in
set_option maxHeartbeats 4000000 in
theorem t_X12_window_72 {Γ : gS} {d : Nat} (hd : 6 ≤ d) (n : Nat) : ∀ {x0 : Nat} {x2 : Int32} {x3 : Int32} {x4 : Int32} {x5 : Int32} {h : aH} {r : Int32} {h' : aH}, f_X12_window_72 n x0 x2 x3 x4 x5 h = some (r, h') → Ex Γ gX12_window d 72 [(0, .ref x0), (2, .int x2), (3, .int x3), (4, .int x4), (5, .int x5)] [] h (some (.int r)) h' := by
  induction n with
  | zero => intro x0 x2 x3 x4 x5 h r h' H; cases H
  | succ n ih => intro x0 x2 x3 x4 x5 h r h' H; exact tb_X12_window_72 hd ih H
def f_X12_window_68 (x0 : Nat) (x2 : Int32) (x3 : Int32) (x4 : Int32) (h : aH) : Option (Int32 × aH) :=
  f_X12_window_72 FU x0 x2 x3 x4 (-64) h
set_option maxRecDepth 100000 in
set_option maxHeartbeats 4000000 in
theorem t_X12_window_68 {Γ : gS} {d : Nat} (hd : 6 ≤ d) {x0 : Nat} {x2 : Int32} {x3 : Int32} {x4 : Int32} {h : aH} {r : Int32} {h' : aH} (H : f_X12_window_68 x0 x2 x3 x4 h = some (r, h')) : Ex Γ gX12_window d 68 [(0, .ref x0), (2, .int x2), (3, .int x3), (4, .int x4)] [] h (some (.int r)) h' := by
  unfold f_X12_window_68 at H
  obtain ⟨d, rfl⟩ : ∃ e, d = e + 1 := ⟨d - 1, by omega⟩
  refine x_bipush (v := (-64)) dX12_window_68 (by decide) ?_
  refine x_istore (lv' := [(5, .int (-64)), (0, .ref x0), (2, .int x2), (3, .int x3), (4, .int x4)]) dX12_window_70 (by decide) rfl rfl ?_
  refine Ex.sub [1, 2, 3, 4, 0] rfl ?_
  exact t_X12_window_72 hd FU H
def b_X12_window_32 (k32 : Nat → Int32 → Int32 → Int32 → Int32 → aH → Option (Int32 × aH)) (x0 : Nat) (x2 : Int32) (x3 : Int32) (x4 : Int32) (x5 : Int32) (h : aH) : Option (Int32 × aH) :=
  if 4096 ≤ x5 then
    f_X12_window_68 x0 x2 x3 x4 h
  else
    if x2 = 0 then
      ko h x0 11 <|
      bd (f_X12_baseFrom x0 x3 x5 h) fun v18 h19 =>
      ko h19 x0 11 <|
      bd (f_X12_baseOf x0 x3 h19) fun v21 h22 =>
      if v18 = v21 then
        nm (x4 + 1) fun (v25 : Int32) =>
        f_X12_window_62 k32 x0 x2 x3 v25 x5 h22
      else
        f_X12_window_62 k32 x0 x2 x3 x4 x5 h22
    else
      f_X12_window_68 x0 x2 x3 x4 h
set_option maxRecDepth 100000 in
set_option maxHeartbeats 4000000 in
theorem tb_X12_window_32 {Γ : gS} {d : Nat} (hd : 6 ≤ d) {k32 : Nat → Int32 → Int32 → Int32 → Int32 → aH → Option (Int32 × aH)} (hk32 : ∀ {x0 : Nat} {x2 : Int32} {x3 : Int32} {x4 : Int32} {x5 : Int32} {h : aH} {r : Int32} {h' : aH}, k32 x0 x2 x3 x4 x5 h = some (r, h') → Ex Γ gX12_window d 32 [(0, .ref x0), (2, .int x2), (3, .int x3), (4, .int x4), (5, .int x5)] [] h (some (.int r)) h') {x0 : Nat} {x2 : Int32} {x3 : Int32} {x4 : Int32} {x5 : Int32} {h : aH} {r : Int32} {h' : aH} (H : b_X12_window_32 k32 x0 x2 x3 x4 x5 h = some (r, h')) : Ex Γ gX12_window d 32 [(0, .ref x0), (2, .int x2), (3, .int x3), (4, .int x4), (5, .int x5)] [] h (some (.int r)) h' := by
  unfold b_X12_window_32 at H
  obtain ⟨d, rfl⟩ : ∃ e, d = e + 1 := ⟨d - 1, by omega⟩
  refine x_iload dX12_window_32 4 rfl ?_
  refine x_sipush (v := 4096) dX12_window_34 (by decide) ?_
  refine x_icmp_ge (tgt := 68) dX12_window_37 (by decide) (fun c16 => ?_) (fun c16 => ?_)
  · replace H := ite_p H c16
    refine Ex.sub [0, 1, 2, 3] rfl ?_
    exact t_X12_window_68 hd H
  · replace H := ite_m H c16
    refine x_iload_n dX12_window_40 rfl 1 rfl ?_
    refine x_if_ne (tgt := 68) dX12_window_41 (by decide) (fun c17 => ?_) (fun c17 => ?_)
    · replace H := ite_m H c17
      refine Ex.sub [0, 1, 2, 3] rfl ?_
      exact t_X12_window_68 hd H
    · replace H := ite_p H c17
      refine x_aload_n dX12_window_44 rfl 0 rfl ?_
      refine x_iload_n dX12_window_45 rfl 2 rfl ?_
      refine x_iload dX12_window_46 4 rfl ?_
      obtain ⟨c27, H⟩ := ko_o H
      obtain ⟨v18, h19, hc20, H⟩ := bd_o H
      refine x_callVi (As := [.int x3, .int x5]) (q := (RX12, TX12, 103)) dX12_window_48 mi_X12_baseFrom lk_X12_409 im_X12_baseFrom se_X12_baseFrom rfl c27 rfl rfl (Nat.le_of_ble_eq_true rfl) (t_X12_baseFrom (by omega) hc20) ?_
      refine x_aload_n dX12_window_51 rfl 0 rfl ?_
      refine x_iload_n dX12_window_52 rfl 2 rfl ?_
      obtain ⟨c26, H⟩ := ko_o H
      obtain ⟨v21, h22, hc23, H⟩ := bd_o H
      refine x_callVi (As := [.int x3]) (q := (RX12, TX12, 103)) dX12_window_53 mi_X12_baseOf lk_X12_412 im_X12_baseOf se_X12_baseOf rfl c26 rfl rfl (Nat.le_of_ble_eq_true rfl) (t_X12_baseOf (by omega) hc23) ?_
      refine x_icmp_ne (tgt := 62) dX12_window_56 (by decide) (fun c24 => ?_) (fun c24 => ?_)
      · replace H := ite_m H c24
        exact t_X12_window_62 hd hk32 H
      · replace H := ite_p H c24
        obtain ⟨v25, ev25, H⟩ := nm_o H
        refine x_iinc (v := v25) (lv' := [(4, .int v25), (0, .ref x0), (2, .int x2), (3, .int x3), (5, .int x5)]) dX12_window_59 3 rfl (by decide) ev25 rfl ?_
        refine Ex.sub [1, 2, 3, 0, 4] rfl ?_
        exact t_X12_window_62 hd hk32 H
def f_X12_window_32 : Nat → Nat → Int32 → Int32 → Int32 → Int32 → aH → Option (Int32 × aH)
  | 0 => fun _ _ _ _ _ _ => none
  | n + 1 => b_X12_window_32 (f_X12_window_32 n)
set_option maxRecDepth 100000 in
set_option maxHeartbeats 4000000 in
theorem t_X12_window_32 {Γ : gS} {d : Nat} (hd : 6 ≤ d) (n : Nat) : ∀ {x0 : Nat} {x2 : Int32} {x3 : Int32} {x4 : Int32} {x5 : Int32} {h : aH} {r : Int32} {h' : aH}, f_X12_window_32 n x0 x2 x3 x4 x5 h = some (r, h') → Ex Γ gX12_window d 32 [(0, .ref x0), (2, .int x2), (3, .int x3), (4, .int x4), (5, .int x5)] [] h (some (.int r)) h' := by
  induction n with
  | zero => intro x0 x2 x3 x4 x5 h r h' H; cases H
  | succ n ih => intro x0 x2 x3 x4 x5 h r h' H; exact tb_X12_window_32 hd ih H
def f_X12_window (x0 : Nat) (x1 : Int32) (x2 : Int32) (h : aH) : Option (Int32 × aH) :=
  ko h x0 11 <|
  bd (f_X12_isPointer x0 x1.toInt64 h) fun v28 h29 =>
  if v28 = 0 then
    f_X12_window_19 h29
  else
    bd (f_X12_isIn x2.toInt64 0 1 h29) fun v32 h33 =>
    if v32 = 0 then
      f_X12_window_19 h33
    else
      nm (8 * x1) fun (v36 : Int32) =>
      f_X12_window_32 FU x0 x2 v36 0 0 h33
set_option maxRecDepth 100000 in
set_option maxHeartbeats 4000000 in
theorem t_X12_window {Γ : gS} {d : Nat} (hd : 6 ≤ d) {x0 : Nat} {x1 : Int32} {x2 : Int32} {h : aH} {r : Int32} {h' : aH} (H : f_X12_window x0 x1 x2 h = some (r, h')) : Mx Γ gX12_window d [.ref x0, .int x1, .int x2] h (some (.int r)) h' := by
  refine Mx.of (by decide +kernel) (Nat.le_of_ble_eq_true rfl) ?_
  unfold f_X12_window at H
  show Ex Γ gX12_window d 0 [(0, .ref x0), (1, .int x1), (2, .int x2)] [] h (some (.int r)) h'
  obtain ⟨d, rfl⟩ : ∃ e, d = e + 1 := ⟨d - 1, by omega⟩
  refine x_aload_n dX12_window_0 rfl 0 rfl ?_
  refine x_iload_n dX12_window_1 rfl 1 rfl ?_
  refine x_i2l dX12_window_2 ?_
  obtain ⟨c37, H⟩ := ko_o H
  obtain ⟨v28, h29, hc30, H⟩ := bd_o H
  refine x_callVi (As := [.long x1.toInt64]) (q := (RX12, TX12, 103)) dX12_window_3 mi_X12_isPointer lk_X12_418 im_X12_isPointer se_X12_isPointer rfl c37 rfl rfl (Nat.le_of_ble_eq_true rfl) (t_X12_isPointer (by omega) hc30) ?_
  refine x_if_eq (tgt := 19) dX12_window_6 (by decide) (fun c31 => ?_) (fun c31 => ?_)
  · replace H := ite_p H c31
    refine Ex.sub [] rfl ?_
    exact t_X12_window_19 hd H
  · replace H := ite_m H c31
    refine x_iload_n dX12_window_9 rfl 2 rfl ?_
    refine x_i2l dX12_window_10 ?_
    refine x_lconst (v := 0) dX12_window_11 (by decide) ?_
    refine x_lconst (v := 1) dX12_window_12 (by decide) ?_
    obtain ⟨v32, h33, hc34, H⟩ := bd_o H
    refine x_callSi (As := [.long x2.toInt64, .long 0, .long 1]) dX12_window_13 mi_X12_isIn lk_X12_268 sm_X12_isIn rfl rfl (Nat.le_of_ble_eq_true rfl) (t_X12_isIn (by omega) hc34) ?_
    refine x_if_ne (tgt := 21) dX12_window_16 (by decide) (fun c35 => ?_) (fun c35 => ?_)
    · replace H := ite_m H c35
      refine x_bipush (v := 8) dX12_window_21 (by decide) ?_
      refine x_iload_n dX12_window_23 rfl 1 rfl ?_
      refine x_imul dX12_window_24 ?_
      obtain ⟨v36, ev36, H⟩ := nm_o H
      refine x_istore_n (lv' := [(3, .int v36), (0, .ref x0), (1, .int x1), (2, .int x2)]) dX12_window_25 rfl (by decide) ev36 rfl ?_
      refine x_iconst (v := 0) dX12_window_26 (by decide) ?_
      refine x_istore (lv' := [(4, .int 0), (3, .int v36), (0, .ref x0), (1, .int x1), (2, .int x2)]) dX12_window_27 (by decide) rfl rfl ?_
      refine x_iconst (v := 0) dX12_window_29 (by decide) ?_
      refine x_istore (lv' := [(5, .int 0), (4, .int 0), (3, .int v36), (0, .ref x0), (1, .int x1), (2, .int x2)]) dX12_window_30 (by decide) rfl rfl ?_
      refine Ex.sub [3, 5, 2, 1, 0] rfl ?_
      exact t_X12_window_32 hd FU H
    · replace H := ite_p H c35
      refine Ex.sub [] rfl ?_
      exact t_X12_window_19 hd H
def f_X12_reachers_19 (h : aH) : Option (Int32 × aH) :=
  some ((-1), h)
set_option maxRecDepth 100000 in
set_option maxHeartbeats 4000000 in
theorem t_X12_reachers_19 {Γ : gS} {d : Nat} (hd : 6 ≤ d) {h : aH} {r : Int32} {h' : aH} (H : f_X12_reachers_19 h = some (r, h')) : Ex Γ gX12_reachers d 19 [] [] h (some (.int r)) h' := by
  unfold f_X12_reachers_19 at H
  obtain ⟨d, rfl⟩ : ∃ e, d = e + 1 := ⟨d - 1, by omega⟩
  refine x_iconst (v := (-1)) dX12_reachers_19 (by decide) ?_
  obtain ⟨rfl, rfl⟩ := so_1 H
  exact x_iret dX12_reachers_20 rfl rfl
def f_X12_reachers_57 (k25 : Nat → Int32 → Int32 → Int32 → aH → Option (Int32 × aH)) (x0 : Nat) (x1 : Int32) (x2 : Int32) (x3 : Int32) (h : aH) : Option (Int32 × aH) :=
  nm (x3 + 1) fun (v1 : Int32) =>
  k25 x0 x1 x2 v1 h
set_option maxRecDepth 100000 in
set_option maxHeartbeats 4000000 in
theorem t_X12_reachers_57 {Γ : gS} {d : Nat} (hd : 6 ≤ d) {k25 : Nat → Int32 → Int32 → Int32 → aH → Option (Int32 × aH)} (hk25 : ∀ {x0 : Nat} {x1 : Int32} {x2 : Int32} {x3 : Int32} {h : aH} {r : Int32} {h' : aH}, k25 x0 x1 x2 x3 h = some (r, h') → Ex Γ gX12_reachers d 25 [(0, .ref x0), (1, .int x1), (2, .int x2), (3, .int x3)] [] h (some (.int r)) h') {x0 : Nat} {x1 : Int32} {x2 : Int32} {x3 : Int32} {h : aH} {r : Int32} {h' : aH} (H : f_X12_reachers_57 k25 x0 x1 x2 x3 h = some (r, h')) : Ex Γ gX12_reachers d 57 [(0, .ref x0), (1, .int x1), (2, .int x2), (3, .int x3)] [] h (some (.int r)) h' := by
  unfold f_X12_reachers_57 at H
  obtain ⟨d, rfl⟩ : ∃ e, d = e + 1 := ⟨d - 1, by omega⟩
  obtain ⟨v1, ev1, H⟩ := nm_o H
  refine x_iinc (v := v1) (lv' := [(3, .int v1), (0, .ref x0), (1, .int x1), (2, .int x2)]) dX12_reachers_57 3 rfl (by decide) ev1 rfl ?_
  refine x_goto (tgt := 25) dX12_reachers_60 (by decide) ?_
  refine Ex.sub [1, 2, 3, 0] rfl ?_
  exact hk25 H
def b_X12_reachers_25 (k25 : Nat → Int32 → Int32 → Int32 → aH → Option (Int32 × aH)) (x0 : Nat) (x1 : Int32) (x2 : Int32) (x3 : Int32) (h : aH) : Option (Int32 × aH) :=
  if 16 ≤ x3 then
    some (x2, h)
  else
    ko h x0 11 <|
    bd (f_X12_isOpen x0 x3 h) fun v3 h4 =>
    if v3 = 0 then
      f_X12_reachers_57 k25 x0 x1 x2 x3 h4
    else
      ko h4 x0 11 <|
      bd (f_X12_isWithin x0 (8 * x3) x1 h4) fun v7 h8 =>
      if v7 = 0 then
        f_X12_reachers_57 k25 x0 x1 x2 x3 h8
      else
        nm (x2 ||| (1 <<< (x3 &&& 31))) fun (v11 : Int32) =>
        f_X12_reachers_57 k25 x0 x1 v11 x3 h8
set_option maxRecDepth 100000 in
set_option maxHeartbeats 4000000 in
theorem tb_X12_reachers_25 {Γ : gS} {d : Nat} (hd : 6 ≤ d) {k25 : Nat → Int32 → Int32 → Int32 → aH → Option (Int32 × aH)} (hk25 : ∀ {x0 : Nat} {x1 : Int32} {x2 : Int32} {x3 : Int32} {h : aH} {r : Int32} {h' : aH}, k25 x0 x1 x2 x3 h = some (r, h') → Ex Γ gX12_reachers d 25 [(0, .ref x0), (1, .int x1), (2, .int x2), (3, .int x3)] [] h (some (.int r)) h') {x0 : Nat} {x1 : Int32} {x2 : Int32} {x3 : Int32} {h : aH} {r : Int32} {h' : aH} (H : b_X12_reachers_25 k25 x0 x1 x2 x3 h = some (r, h')) : Ex Γ gX12_reachers d 25 [(0, .ref x0), (1, .int x1), (2, .int x2), (3, .int x3)] [] h (some (.int r)) h' := by
  unfold b_X12_reachers_25 at H
  obtain ⟨d, rfl⟩ : ∃ e, d = e + 1 := ⟨d - 1, by omega⟩
  refine x_iload_n dX12_reachers_25 rfl 3 rfl ?_
  refine x_bipush (v := 16) dX12_reachers_26 (by decide) ?_
  refine x_icmp_ge (tgt := 63) dX12_reachers_28 (by decide) (fun c2 => ?_) (fun c2 => ?_)
  · replace H := ite_p H c2
    refine x_iload_n dX12_reachers_63 rfl 2 rfl ?_
    obtain ⟨rfl, rfl⟩ := so_1 H
    exact x_iret dX12_reachers_64 rfl rfl
  · replace H := ite_m H c2
    refine x_aload_n dX12_reachers_31 rfl 0 rfl ?_
    refine x_iload_n dX12_reachers_32 rfl 3 rfl ?_
    obtain ⟨c13, H⟩ := ko_o H
    obtain ⟨v3, h4, hc5, H⟩ := bd_o H
    refine x_callVi (As := [.int x3]) (q := (RX12, TX12, 103)) dX12_reachers_33 mi_X12_isOpen lk_X12_460 im_X12_isOpen se_X12_isOpen rfl c13 rfl rfl (Nat.le_of_ble_eq_true rfl) (t_X12_isOpen (by omega) hc5) ?_
    refine x_if_eq (tgt := 57) dX12_reachers_36 (by decide) (fun c6 => ?_) (fun c6 => ?_)
    · replace H := ite_p H c6
      exact t_X12_reachers_57 hd hk25 H
    · replace H := ite_m H c6
      refine x_aload_n dX12_reachers_39 rfl 0 rfl ?_
      refine x_bipush (v := 8) dX12_reachers_40 (by decide) ?_
      refine x_iload_n dX12_reachers_42 rfl 3 rfl ?_
      refine x_imul dX12_reachers_43 ?_
      refine x_iload_n dX12_reachers_44 rfl 1 rfl ?_
      obtain ⟨c12, H⟩ := ko_o H
      obtain ⟨v7, h8, hc9, H⟩ := bd_o H
      refine x_callVi (As := [.int (8 * x3), .int x1]) (q := (RX12, TX12, 103)) dX12_reachers_45 mi_X12_isWithin lk_X12_504 im_X12_isWithin se_X12_isWithin rfl c12 rfl rfl (Nat.le_of_ble_eq_true rfl) (t_X12_isWithin (by omega) hc9) ?_
      refine x_if_eq (tgt := 57) dX12_reachers_48 (by decide) (fun c10 => ?_) (fun c10 => ?_)
      · replace H := ite_p H c10
        exact t_X12_reachers_57 hd hk25 H
      · replace H := ite_m H c10
        refine x_iload_n dX12_reachers_51 rfl 2 rfl ?_
        refine x_iconst (v := 1) dX12_reachers_52 (by decide) ?_
        refine x_iload_n dX12_reachers_53 rfl 3 rfl ?_
        refine x_ishl dX12_reachers_54 ?_
        refine x_ior dX12_reachers_55 ?_
        obtain ⟨v11, ev11, H⟩ := nm_o H
        refine x_istore_n (lv' := [(2, .int v11), (0, .ref x0), (1, .int x1), (3, .int x3)]) dX12_reachers_56 rfl (by decide) ev11 rfl ?_
        refine Ex.sub [1, 2, 0, 3] rfl ?_
        exact t_X12_reachers_57 hd hk25 H
def f_X12_reachers_25 : Nat → Nat → Int32 → Int32 → Int32 → aH → Option (Int32 × aH)
  | 0 => fun _ _ _ _ _ => none
  | n + 1 => b_X12_reachers_25 (f_X12_reachers_25 n)
set_option maxRecDepth 100000 in
set_option maxHeartbeats 4000000 in
theorem t_X12_reachers_25 {Γ : gS} {d : Nat} (hd : 6 ≤ d) (n : Nat) : ∀ {x0 : Nat} {x1 : Int32} {x2 : Int32} {x3 : Int32} {h : aH} {r : Int32} {h' : aH}, f_X12_reachers_25 n x0 x1 x2 x3 h = some (r, h') → Ex Γ gX12_reachers d 25 [(0, .ref x0), (1, .int x1), (2, .int x2), (3, .int x3)] [] h (some (.int r)) h' := by
  induction n with
  | zero => intro x0 x1 x2 x3 h r h' H; cases H
  | succ n ih => intro x0 x1 x2 x3 h r h' H; exact tb_X12_reachers_25 hd ih H
def f_X12_reachers (x0 : Nat) (x1 : Int32) (h : aH) : Option (Int32 × aH) :=
  ko h x0 11 <|
  if (hI h x0 45) = 0 then
    f_X12_reachers_19 h
  else
    bd (f_X12_isIn x1.toInt64 0 4095 h) fun v16 h17 =>
    if v16 = 0 then
      f_X12_reachers_19 h17
    else
      f_X12_reachers_25 FU x0 x1 0 0 h17
set_option maxRecDepth 100000 in
set_option maxHeartbeats 4000000 in
theorem t_X12_reachers {Γ : gS} {d : Nat} (hd : 6 ≤ d) {x0 : Nat} {x1 : Int32} {h : aH} {r : Int32} {h' : aH} (H : f_X12_reachers x0 x1 h = some (r, h')) : Mx Γ gX12_reachers d [.ref x0, .int x1] h (some (.int r)) h' := by
  refine Mx.of (by decide +kernel) (Nat.le_of_ble_eq_true rfl) ?_
  unfold f_X12_reachers at H
  show Ex Γ gX12_reachers d 0 [(0, .ref x0), (1, .int x1)] [] h (some (.int r)) h'
  obtain ⟨d, rfl⟩ : ∃ e, d = e + 1 := ⟨d - 1, by omega⟩
  refine x_aload_n dX12_reachers_0 rfl 0 rfl ?_
  obtain ⟨c14, H⟩ := ko_o H
  refine x_getI fr_X12_352 dX12_reachers_1 c14 rfl ?_
  refine x_if_eq (tgt := 19) dX12_reachers_4 (by decide) (fun c15 => ?_) (fun c15 => ?_)
  · replace H := ite_p H c15
    refine Ex.sub [] rfl ?_
    exact t_X12_reachers_19 hd H
  · replace H := ite_m H c15
    refine x_iload_n dX12_reachers_7 rfl 1 rfl ?_
    refine x_i2l dX12_reachers_8 ?_
    refine x_lconst (v := 0) dX12_reachers_9 (by decide) ?_
    refine x_ldc2 kc_X12_496 dX12_reachers_10 ?_
    obtain ⟨v16, h17, hc18, H⟩ := bd_o H
    refine x_callSi (As := [.long x1.toInt64, .long 0, .long 4095]) dX12_reachers_13 mi_X12_isIn lk_X12_268 sm_X12_isIn rfl rfl (Nat.le_of_ble_eq_true rfl) (t_X12_isIn (by omega) hc18) ?_
    refine x_if_ne (tgt := 21) dX12_reachers_16 (by decide) (fun c19 => ?_) (fun c19 => ?_)
    · replace H := ite_m H c19
      refine x_iconst (v := 0) dX12_reachers_21 (by decide) ?_
      refine x_istore_n (lv' := [(2, .int 0), (0, .ref x0), (1, .int x1)]) dX12_reachers_22 rfl (by decide) rfl rfl ?_
      refine x_iconst (v := 0) dX12_reachers_23 (by decide) ?_
      refine x_istore_n (lv' := [(3, .int 0), (2, .int 0), (0, .ref x0), (1, .int x1)]) dX12_reachers_24 rfl (by decide) rfl rfl ?_
      refine Ex.sub [2, 3, 1, 0] rfl ?_
      exact t_X12_reachers_25 hd FU H
    · replace H := ite_p H c19
      refine Ex.sub [] rfl ?_
      exact t_X12_reachers_19 hd H
def f_X12_room_28 (s0 : Int32) (h : aH) : Option (Int32 × aH) :=
  some (s0, h)
set_option maxRecDepth 100000 in
set_option maxHeartbeats 4000000 in
theorem t_X12_room_28 {Γ : gS} {d : Nat} (hd : 8 ≤ d) {s0 : Int32} {h : aH} {r : Int32} {h' : aH} (H : f_X12_room_28 s0 h = some (r, h')) : Ex Γ gX12_room d 28 [] [.int s0] h (some (.int r)) h' := by
  unfold f_X12_room_28 at H
  obtain ⟨d, rfl⟩ : ∃ e, d = e + 1 := ⟨d - 1, by omega⟩
  obtain ⟨rfl, rfl⟩ := so_1 H
  exact x_iret dX12_room_28 rfl rfl
def f_X12_room_27 (h : aH) : Option (Int32 × aH) :=
  f_X12_room_28 (-1) h
set_option maxRecDepth 100000 in
set_option maxHeartbeats 4000000 in
theorem t_X12_room_27 {Γ : gS} {d : Nat} (hd : 8 ≤ d) {h : aH} {r : Int32} {h' : aH} (H : f_X12_room_27 h = some (r, h')) : Ex Γ gX12_room d 27 [] [] h (some (.int r)) h' := by
  unfold f_X12_room_27 at H
  obtain ⟨d, rfl⟩ : ∃ e, d = e + 1 := ⟨d - 1, by omega⟩
  refine x_iconst (v := (-1)) dX12_room_27 (by decide) ?_
  exact t_X12_room_28 hd H
def f_X12_room (x0 : Nat) (x1 : Int32) (h : aH) : Option (Int32 × aH) :=
  ko h x0 11 <|
  if (hI h x0 45) = 0 then
    f_X12_room_27 h
  else
    bd (f_X12_isIn x1.toInt64 1 1024 h) fun v3 h4 =>
    if v3 = 0 then
      f_X12_room_27 h4
    else
      ko h4 x0 11 <|
      bd (f_X12_roomFor x0 x1 h4) fun v7 h8 =>
      f_X12_room_28 v7 h8
set_option maxRecDepth 100000 in
set_option maxHeartbeats 4000000 in
theorem t_X12_room {Γ : gS} {d : Nat} (hd : 8 ≤ d) {x0 : Nat} {x1 : Int32} {h : aH} {r : Int32} {h' : aH} (H : f_X12_room x0 x1 h = some (r, h')) : Mx Γ gX12_room d [.ref x0, .int x1] h (some (.int r)) h' := by
  refine Mx.of (by decide +kernel) (Nat.le_of_ble_eq_true rfl) ?_
  unfold f_X12_room at H
  show Ex Γ gX12_room d 0 [(0, .ref x0), (1, .int x1)] [] h (some (.int r)) h'
  obtain ⟨d, rfl⟩ : ∃ e, d = e + 1 := ⟨d - 1, by omega⟩
  refine x_aload_n dX12_room_0 rfl 0 rfl ?_
  obtain ⟨c1, H⟩ := ko_o H
  refine x_getI fr_X12_352 dX12_room_1 c1 rfl ?_
  refine x_if_eq (tgt := 27) dX12_room_4 (by decide) (fun c2 => ?_) (fun c2 => ?_)
  · replace H := ite_p H c2
    refine Ex.sub [] rfl ?_
    exact t_X12_room_27 hd H
  · replace H := ite_m H c2
    refine x_iload_n dX12_room_7 rfl 1 rfl ?_
    refine x_i2l dX12_room_8 ?_
    refine x_lconst (v := 1) dX12_room_9 (by decide) ?_
    refine x_ldc2 kc_X12_507 dX12_room_10 ?_
    obtain ⟨v3, h4, hc5, H⟩ := bd_o H
    refine x_callSi (As := [.long x1.toInt64, .long 1, .long 1024]) dX12_room_13 mi_X12_isIn lk_X12_268 sm_X12_isIn rfl rfl (Nat.le_of_ble_eq_true rfl) (t_X12_isIn (by omega) hc5) ?_
    refine x_if_eq (tgt := 27) dX12_room_16 (by decide) (fun c6 => ?_) (fun c6 => ?_)
    · replace H := ite_p H c6
      refine Ex.sub [] rfl ?_
      exact t_X12_room_27 hd H
    · replace H := ite_m H c6
      refine x_aload_n dX12_room_19 rfl 0 rfl ?_
      refine x_iload_n dX12_room_20 rfl 1 rfl ?_
      obtain ⟨c10, H⟩ := ko_o H
      obtain ⟨v7, h8, hc9, H⟩ := bd_o H
      refine x_callVi (As := [.int x1]) (q := (RX12, TX12, 103)) dX12_room_21 mi_X12_roomFor lk_X12_509 im_X12_roomFor se_X12_roomFor rfl c10 rfl rfl (Nat.le_of_ble_eq_true rfl) (t_X12_roomFor (by omega) hc9) ?_
      refine x_goto (tgt := 28) dX12_room_24 (by decide) ?_
      refine Ex.sub [] rfl ?_
      exact t_X12_room_28 hd H
def f_X12_odds_31 (k13 : Nat → Int32 → Int32 → aH → Option (Int32 × aH)) (x0 : Nat) (x1 : Int32) (x2 : Int32) (h : aH) : Option (Int32 × aH) :=
  nm (x2 + 1) fun (v1 : Int32) =>
  k13 x0 x1 v1 h
set_option maxRecDepth 100000 in
set_option maxHeartbeats 4000000 in
theorem t_X12_odds_31 {Γ : gS} {d : Nat} (hd : 8 ≤ d) {k13 : Nat → Int32 → Int32 → aH → Option (Int32 × aH)} (hk13 : ∀ {x0 : Nat} {x1 : Int32} {x2 : Int32} {h : aH} {r : Int32} {h' : aH}, k13 x0 x1 x2 h = some (r, h') → Ex Γ gX12_odds d 13 [(0, .ref x0), (1, .int x1), (2, .int x2)] [] h (some (.int r)) h') {x0 : Nat} {x1 : Int32} {x2 : Int32} {h : aH} {r : Int32} {h' : aH} (H : f_X12_odds_31 k13 x0 x1 x2 h = some (r, h')) : Ex Γ gX12_odds d 31 [(0, .ref x0), (1, .int x1), (2, .int x2)] [] h (some (.int r)) h' := by
  unfold f_X12_odds_31 at H
  obtain ⟨d, rfl⟩ : ∃ e, d = e + 1 := ⟨d - 1, by omega⟩
  obtain ⟨v1, ev1, H⟩ := nm_o H
  refine x_iinc (v := v1) (lv' := [(2, .int v1), (0, .ref x0), (1, .int x1)]) dX12_odds_31 2 rfl (by decide) ev1 rfl ?_
  refine x_goto (tgt := 13) dX12_odds_34 (by decide) ?_
  refine Ex.sub [1, 2, 0] rfl ?_
  exact hk13 H
def b_X12_odds_13 (k13 : Nat → Int32 → Int32 → aH → Option (Int32 × aH)) (x0 : Nat) (x1 : Int32) (x2 : Int32) (h : aH) : Option (Int32 × aH) :=
  if 100 < x2 then
    some (x1, h)
  else
    ko h x0 11 <|
    bd (f_X12_roomFor x0 x2 h) fun v3 h4 =>
    if v3 = (-1) then
      f_X12_odds_31 k13 x0 x1 x2 h4
    else
      nm (x1 + 1) fun (v7 : Int32) =>
      f_X12_odds_31 k13 x0 v7 x2 h4
set_option maxRecDepth 100000 in
set_option maxHeartbeats 4000000 in
theorem tb_X12_odds_13 {Γ : gS} {d : Nat} (hd : 8 ≤ d) {k13 : Nat → Int32 → Int32 → aH → Option (Int32 × aH)} (hk13 : ∀ {x0 : Nat} {x1 : Int32} {x2 : Int32} {h : aH} {r : Int32} {h' : aH}, k13 x0 x1 x2 h = some (r, h') → Ex Γ gX12_odds d 13 [(0, .ref x0), (1, .int x1), (2, .int x2)] [] h (some (.int r)) h') {x0 : Nat} {x1 : Int32} {x2 : Int32} {h : aH} {r : Int32} {h' : aH} (H : b_X12_odds_13 k13 x0 x1 x2 h = some (r, h')) : Ex Γ gX12_odds d 13 [(0, .ref x0), (1, .int x1), (2, .int x2)] [] h (some (.int r)) h' := by
  unfold b_X12_odds_13 at H
  obtain ⟨d, rfl⟩ : ∃ e, d = e + 1 := ⟨d - 1, by omega⟩
  refine x_iload_n dX12_odds_13 rfl 2 rfl ?_
  refine x_bipush (v := 100) dX12_odds_14 (by decide) ?_
  refine x_icmp_gt (tgt := 37) dX12_odds_16 (by decide) (fun c2 => ?_) (fun c2 => ?_)
  · replace H := ite_p H c2
    refine x_iload_n dX12_odds_37 rfl 1 rfl ?_
    obtain ⟨rfl, rfl⟩ := so_1 H
    exact x_iret dX12_odds_38 rfl rfl
  · replace H := ite_m H c2
    refine x_aload_n dX12_odds_19 rfl 0 rfl ?_
    refine x_iload_n dX12_odds_20 rfl 2 rfl ?_
    obtain ⟨c8, H⟩ := ko_o H
    obtain ⟨v3, h4, hc5, H⟩ := bd_o H
    refine x_callVi (As := [.int x2]) (q := (RX12, TX12, 103)) dX12_odds_21 mi_X12_roomFor lk_X12_509 im_X12_roomFor se_X12_roomFor rfl c8 rfl rfl (Nat.le_of_ble_eq_true rfl) (t_X12_roomFor (by omega) hc5) ?_
    refine x_iconst (v := (-1)) dX12_odds_24 (by decide) ?_
    refine x_icmp_eq (tgt := 31) dX12_odds_25 (by decide) (fun c6 => ?_) (fun c6 => ?_)
    · replace H := ite_p H c6
      exact t_X12_odds_31 hd hk13 H
    · replace H := ite_m H c6
      obtain ⟨v7, ev7, H⟩ := nm_o H
      refine x_iinc (v := v7) (lv' := [(1, .int v7), (0, .ref x0), (2, .int x2)]) dX12_odds_28 1 rfl (by decide) ev7 rfl ?_
      refine Ex.sub [1, 0, 2] rfl ?_
      exact t_X12_odds_31 hd hk13 H
def f_X12_odds_13 : Nat → Nat → Int32 → Int32 → aH → Option (Int32 × aH)
  | 0 => fun _ _ _ _ => none
  | n + 1 => b_X12_odds_13 (f_X12_odds_13 n)
set_option maxRecDepth 100000 in
set_option maxHeartbeats 4000000 in
theorem t_X12_odds_13 {Γ : gS} {d : Nat} (hd : 8 ≤ d) (n : Nat) : ∀ {x0 : Nat} {x1 : Int32} {x2 : Int32} {h : aH} {r : Int32} {h' : aH}, f_X12_odds_13 n x0 x1 x2 h = some (r, h') → Ex Γ gX12_odds d 13 [(0, .ref x0), (1, .int x1), (2, .int x2)] [] h (some (.int r)) h' := by
  induction n with
  | zero => intro x0 x1 x2 h r h' H; cases H
  | succ n ih => intro x0 x1 x2 h r h' H; exact tb_X12_odds_13 hd ih H
def f_X12_odds (x0 : Nat) (h : aH) : Option (Int32 × aH) :=
  ko h x0 11 <|
  if (hI h x0 45) = 0 then
    some ((-1), h)
  else
    f_X12_odds_13 FU x0 0 1 h
set_option maxRecDepth 100000 in
set_option maxHeartbeats 4000000 in
theorem t_X12_odds {Γ : gS} {d : Nat} (hd : 8 ≤ d) {x0 : Nat} {h : aH} {r : Int32} {h' : aH} (H : f_X12_odds x0 h = some (r, h')) : Mx Γ gX12_odds d [.ref x0] h (some (.int r)) h' := by
  refine Mx.of (by decide +kernel) (Nat.le_of_ble_eq_true rfl) ?_
  unfold f_X12_odds at H
  show Ex Γ gX12_odds d 0 [(0, .ref x0)] [] h (some (.int r)) h'
  obtain ⟨d, rfl⟩ : ∃ e, d = e + 1 := ⟨d - 1, by omega⟩
  refine x_aload_n dX12_odds_0 rfl 0 rfl ?_
  obtain ⟨c9, H⟩ := ko_o H
  refine x_getI fr_X12_352 dX12_odds_1 c9 rfl ?_
  refine x_if_ne (tgt := 9) dX12_odds_4 (by decide) (fun c10 => ?_) (fun c10 => ?_)
  · replace H := ite_m H c10
    refine x_iconst (v := 0) dX12_odds_9 (by decide) ?_
    refine x_istore_n (lv' := [(1, .int 0), (0, .ref x0)]) dX12_odds_10 rfl (by decide) rfl rfl ?_
    refine x_iconst (v := 1) dX12_odds_11 (by decide) ?_
    refine x_istore_n (lv' := [(2, .int 1), (1, .int 0), (0, .ref x0)]) dX12_odds_12 rfl (by decide) rfl rfl ?_
    refine Ex.sub [2, 1, 0] rfl ?_
    exact t_X12_odds_13 hd FU H
  · replace H := ite_p H c10
    refine x_iconst (v := (-1)) dX12_odds_7 (by decide) ?_
    obtain ⟨rfl, rfl⟩ := so_1 H
    exact x_iret dX12_odds_8 rfl rfl
def f_X12_share_17 (h : aH) : Option (Int32 × aH) :=
  some ((-1), h)
set_option maxRecDepth 100000 in
set_option maxHeartbeats 4000000 in
theorem t_X12_share_17 {Γ : gS} {d : Nat} (hd : 2 ≤ d) {h : aH} {r : Int32} {h' : aH} (H : f_X12_share_17 h = some (r, h')) : Ex Γ gX12_share d 17 [] [] h (some (.int r)) h' := by
  unfold f_X12_share_17 at H
  obtain ⟨d, rfl⟩ : ∃ e, d = e + 1 := ⟨d - 1, by omega⟩
  refine x_iconst (v := (-1)) dX12_share_17 (by decide) ?_
  obtain ⟨rfl, rfl⟩ := so_1 H
  exact x_iret dX12_share_18 rfl rfl
def f_X12_share_64 (s0 : Int32) (h : aH) : Option (Int32 × aH) :=
  some (s0, h)
set_option maxRecDepth 100000 in
set_option maxHeartbeats 4000000 in
theorem t_X12_share_64 {Γ : gS} {d : Nat} (hd : 2 ≤ d) {s0 : Int32} {h : aH} {r : Int32} {h' : aH} (H : f_X12_share_64 s0 h = some (r, h')) : Ex Γ gX12_share d 64 [] [.int s0] h (some (.int r)) h' := by
  unfold f_X12_share_64 at H
  obtain ⟨d, rfl⟩ : ∃ e, d = e + 1 := ⟨d - 1, by omega⟩
  obtain ⟨rfl, rfl⟩ := so_1 H
  exact x_iret dX12_share_64 rfl rfl
def f_X12_share (x0 : Nat) (x1 : Int32) (h : aH) : Option (Int32 × aH) :=
  ko h x0 11 <|
  if (hI h x0 45) = 0 then
    f_X12_share_17 h
  else
    bd (f_X12_isIn x1.toInt64 0 1 h) fun v3 h4 =>
    if v3 = 0 then
      f_X12_share_17 h4
    else
      ko h4 x0 11 <|
      bd (f_X12_objectBytes x0 1 h4) fun v7 h8 =>
      if x1 = 0 then
        ko h8 x0 11 <|
        kr (hR h8 x0 37) fun a18 =>
        ka h8 a18 .int fun n21 =>
        chk (inb 3 n21 = true) <|
        chk (¬ ((hI h8 a18 (3 : Int32).toNatClampNeg) - 16) = 0) <|
        some ((100 * v7) / ((hI h8 a18 (3 : Int32).toNatClampNeg) - 16), h8)
      else
        if v7 = 0 then
          f_X12_share_64 0 h8
        else
          ko h8 x0 11 <|
          bd (f_X12_objectBytes x0 2 h8) fun v12 h13 =>
          chk (¬ v7 = 0) <|
          f_X12_share_64 ((100 * (v7 - v12)) / v7) h13
set_option maxRecDepth 100000 in
set_option maxHeartbeats 4000000 in
theorem t_X12_share {Γ : gS} {d : Nat} (hd : 2 ≤ d) {x0 : Nat} {x1 : Int32} {h : aH} {r : Int32} {h' : aH} (H : f_X12_share x0 x1 h = some (r, h')) : Mx Γ gX12_share d [.ref x0, .int x1] h (some (.int r)) h' := by
  refine Mx.of (by decide +kernel) (Nat.le_of_ble_eq_true rfl) ?_
  unfold f_X12_share at H
  show Ex Γ gX12_share d 0 [(0, .ref x0), (1, .int x1)] [] h (some (.int r)) h'
  obtain ⟨d, rfl⟩ : ∃ e, d = e + 1 := ⟨d - 1, by omega⟩
  refine x_aload_n dX12_share_0 rfl 0 rfl ?_
  obtain ⟨c1, H⟩ := ko_o H
  refine x_getI fr_X12_352 dX12_share_1 c1 rfl ?_
  refine x_if_eq (tgt := 17) dX12_share_4 (by decide) (fun c2 => ?_) (fun c2 => ?_)
  · replace H := ite_p H c2
    refine Ex.sub [] rfl ?_
    exact t_X12_share_17 hd H
  · replace H := ite_m H c2
    refine x_iload_n dX12_share_7 rfl 1 rfl ?_
    refine x_i2l dX12_share_8 ?_
    refine x_lconst (v := 0) dX12_share_9 (by decide) ?_
    refine x_lconst (v := 1) dX12_share_10 (by decide) ?_
    obtain ⟨v3, h4, hc5, H⟩ := bd_o H
    refine x_callSi (As := [.long x1.toInt64, .long 0, .long 1]) dX12_share_11 mi_X12_isIn lk_X12_268 sm_X12_isIn rfl rfl (Nat.le_of_ble_eq_true rfl) (t_X12_isIn (by omega) hc5) ?_
    refine x_if_ne (tgt := 19) dX12_share_14 (by decide) (fun c6 => ?_) (fun c6 => ?_)
    · replace H := ite_m H c6
      refine x_aload_n dX12_share_19 rfl 0 rfl ?_
      refine x_iconst (v := 1) dX12_share_20 (by decide) ?_
      obtain ⟨c24, H⟩ := ko_o H
      obtain ⟨v7, h8, hc9, H⟩ := bd_o H
      refine x_callVi (As := [.int 1]) (q := (RX12, TX12, 103)) dX12_share_21 mi_X12_objectBytes lk_X12_466 im_X12_objectBytes se_X12_objectBytes rfl c24 rfl rfl (Nat.le_of_ble_eq_true rfl) (t_X12_objectBytes (by omega) hc9) ?_
      refine x_istore_n (lv' := [(2, .int v7), (0, .ref x0), (1, .int x1)]) dX12_share_24 rfl (by decide) rfl rfl ?_
      refine x_iload_n dX12_share_25 rfl 2 rfl ?_
      refine x_if_ne (tgt := 44) dX12_share_26 (by decide) (fun c10 => ?_) (fun c10 => ?_)
      · replace H := ite_m H c10
        refine x_iload_n dX12_share_44 rfl 0 rfl ?_
        refine x_if_ne (tgt := 52) dX12_share_45 (by decide) (fun c11 => ?_) (fun c11 => ?_)
        · replace H := ite_m H c11
          refine x_bipush (v := 100) dX12_share_52 (by decide) ?_
          refine x_iload_n dX12_share_54 rfl 0 rfl ?_
          refine x_aload_n dX12_share_55 rfl 1 rfl ?_
          refine x_iconst (v := 2) dX12_share_56 (by decide) ?_
          obtain ⟨c16, H⟩ := ko_o H
          obtain ⟨v12, h13, hc14, H⟩ := bd_o H
          refine x_callVi (As := [.int 2]) (q := (RX12, TX12, 103)) dX12_share_57 mi_X12_objectBytes lk_X12_466 im_X12_objectBytes se_X12_objectBytes rfl c16 rfl rfl (Nat.le_of_ble_eq_true rfl) (t_X12_objectBytes (by omega) hc14) ?_
          refine x_isub dX12_share_60 ?_
          refine x_imul dX12_share_61 ?_
          refine x_iload_n dX12_share_62 rfl 0 rfl ?_
          obtain ⟨c15, H⟩ := chk_o H
          refine x_idiv dX12_share_63 c15 ?_
          refine Ex.sub [] rfl ?_
          exact t_X12_share_64 hd H
        · replace H := ite_p H c11
          refine x_iconst (v := 0) dX12_share_48 (by decide) ?_
          refine x_goto (tgt := 64) dX12_share_49 (by decide) ?_
          refine Ex.sub [] rfl ?_
          exact t_X12_share_64 hd H
      · replace H := ite_p H c10
        refine x_bipush (v := 100) dX12_share_29 (by decide) ?_
        refine x_iload_n dX12_share_31 rfl 0 rfl ?_
        refine x_imul dX12_share_32 ?_
        refine x_aload_n dX12_share_33 rfl 1 rfl ?_
        obtain ⟨c17, H⟩ := ko_o H
        obtain ⟨a18, c19, H⟩ := kr_o H
        refine x_getR fr_X12_96 dX12_share_34 c17 rfl c19 ?_
        refine x_iconst (v := 3) dX12_share_37 (by decide) ?_
        obtain ⟨n21, c20, H⟩ := ka_o H
        obtain ⟨c22, H⟩ := chk_o H
        refine x_iald dX12_share_38 c20 (inb_in.mp c22) ?_
        refine x_bipush (v := 16) dX12_share_39 (by decide) ?_
        refine x_isub dX12_share_41 ?_
        obtain ⟨c23, H⟩ := chk_o H
        refine x_idiv dX12_share_42 c23 ?_
        obtain ⟨rfl, rfl⟩ := so_1 H
        exact x_iret dX12_share_43 rfl rfl
    · replace H := ite_p H c6
      refine Ex.sub [] rfl ?_
      exact t_X12_share_17 hd H
def f_X12_see_81 (k43 : Nat → Int32 → Int32 → Int32 → aH → Option (Int32 × aH)) (x0 : Nat) (x1 : Int32) (x3 : Int32) (s0 : Int32) (h : aH) : Option (Int32 × aH) :=
  nm (x3 + 2) fun (v1 : Int32) =>
  k43 x0 x1 s0 v1 h
set_option maxRecDepth 100000 in
set_option maxHeartbeats 4000000 in
theorem t_X12_see_81 {Γ : gS} {d : Nat} (hd : 1 ≤ d) {k43 : Nat → Int32 → Int32 → Int32 → aH → Option (Int32 × aH)} (hk43 : ∀ {x0 : Nat} {x1 : Int32} {x2 : Int32} {x3 : Int32} {h : aH} {r : Int32} {h' : aH}, k43 x0 x1 x2 x3 h = some (r, h') → Ex Γ gX12_see d 43 [(0, .ref x0), (1, .int x1), (2, .int x2), (3, .int x3)] [] h (some (.int r)) h') {x0 : Nat} {x1 : Int32} {x3 : Int32} {s0 : Int32} {h : aH} {r : Int32} {h' : aH} (H : f_X12_see_81 k43 x0 x1 x3 s0 h = some (r, h')) : Ex Γ gX12_see d 81 [(0, .ref x0), (1, .int x1), (3, .int x3)] [.int s0] h (some (.int r)) h' := by
  unfold f_X12_see_81 at H
  obtain ⟨d, rfl⟩ : ∃ e, d = e + 1 := ⟨d - 1, by omega⟩
  refine x_istore_n (lv' := [(2, .int s0), (0, .ref x0), (1, .int x1), (3, .int x3)]) dX12_see_81 rfl (by decide) rfl rfl ?_
  obtain ⟨v1, ev1, H⟩ := nm_o H
  refine x_iinc (v := v1) (lv' := [(3, .int v1), (2, .int s0), (0, .ref x0), (1, .int x1)]) dX12_see_82 3 rfl (by decide) ev1 rfl ?_
  refine x_goto (tgt := 43) dX12_see_85 (by decide) ?_
  refine Ex.sub [2, 3, 1, 0] rfl ?_
  exact hk43 H
def f_X12_see_80 (k43 : Nat → Int32 → Int32 → Int32 → aH → Option (Int32 × aH)) (x0 : Nat) (x1 : Int32) (x3 : Int32) (h : aH) : Option (Int32 × aH) :=
  f_X12_see_81 k43 x0 x1 x3 0 h
set_option maxRecDepth 100000 in
set_option maxHeartbeats 4000000 in
theorem t_X12_see_80 {Γ : gS} {d : Nat} (hd : 1 ≤ d) {k43 : Nat → Int32 → Int32 → Int32 → aH → Option (Int32 × aH)} (hk43 : ∀ {x0 : Nat} {x1 : Int32} {x2 : Int32} {x3 : Int32} {h : aH} {r : Int32} {h' : aH}, k43 x0 x1 x2 x3 h = some (r, h') → Ex Γ gX12_see d 43 [(0, .ref x0), (1, .int x1), (2, .int x2), (3, .int x3)] [] h (some (.int r)) h') {x0 : Nat} {x1 : Int32} {x3 : Int32} {h : aH} {r : Int32} {h' : aH} (H : f_X12_see_80 k43 x0 x1 x3 h = some (r, h')) : Ex Γ gX12_see d 80 [(0, .ref x0), (1, .int x1), (3, .int x3)] [] h (some (.int r)) h' := by
  unfold f_X12_see_80 at H
  obtain ⟨d, rfl⟩ : ∃ e, d = e + 1 := ⟨d - 1, by omega⟩
  refine x_iconst (v := 0) dX12_see_80 (by decide) ?_
  exact t_X12_see_81 hd hk43 H
def b_X12_see_100 (k100 : Nat → Int32 → Int32 → aH → Option (Int32 × aH)) (x0 : Nat) (x1 : Int32) (x3 : Int32) (h : aH) : Option (Int32 × aH) :=
  if x1 ≤ x3 then
    ko h x0 11 <|
    nm (hI (sI h x0 58 (x1 / 2)) x0 58) fun (v4 : Int32) =>
    some (v4, sI h x0 58 (x1 / 2))
  else
    ko h x0 11 <|
    kr (hR h x0 59) fun a6 =>
    kr (hR h x0 0) fun a8 =>
    ka h a8 .int fun n11 =>
    chk (inb x3 n11 = true) <|
    ka h a6 .int fun n14 =>
    chk (inb x3 n14 = true) <|
    nm (x3 + 1) fun (v16 : Int32) =>
    k100 x0 x1 v16 (sI h a6 x3.toNatClampNeg (hI h a8 x3.toNatClampNeg))
set_option maxRecDepth 100000 in
set_option maxHeartbeats 4000000 in
theorem tb_X12_see_100 {Γ : gS} {d : Nat} (hd : 1 ≤ d) {k100 : Nat → Int32 → Int32 → aH → Option (Int32 × aH)} (hk100 : ∀ {x0 : Nat} {x1 : Int32} {x3 : Int32} {h : aH} {r : Int32} {h' : aH}, k100 x0 x1 x3 h = some (r, h') → Ex Γ gX12_see d 100 [(0, .ref x0), (1, .int x1), (3, .int x3)] [] h (some (.int r)) h') {x0 : Nat} {x1 : Int32} {x3 : Int32} {h : aH} {r : Int32} {h' : aH} (H : b_X12_see_100 k100 x0 x1 x3 h = some (r, h')) : Ex Γ gX12_see d 100 [(0, .ref x0), (1, .int x1), (3, .int x3)] [] h (some (.int r)) h' := by
  unfold b_X12_see_100 at H
  obtain ⟨d, rfl⟩ : ∃ e, d = e + 1 := ⟨d - 1, by omega⟩
  refine x_iload_n dX12_see_100 rfl 2 rfl ?_
  refine x_iload_n dX12_see_101 rfl 1 rfl ?_
  refine x_icmp_ge (tgt := 123) dX12_see_102 (by decide) (fun c2 => ?_) (fun c2 => ?_)
  · replace H := ite_p H c2
    refine x_aload_n dX12_see_123 rfl 0 rfl ?_
    refine x_iload_n dX12_see_124 rfl 1 rfl ?_
    refine x_iconst (v := 2) dX12_see_125 (by decide) ?_
    refine x_idiv dX12_see_126 (by decide) ?_
    obtain ⟨c3, H⟩ := ko_o H
    refine x_putI fl_X12_365 dX12_see_127 c3 (fun e => by cases e) rfl ?_
    refine x_aload_n dX12_see_130 rfl 0 rfl ?_
    obtain ⟨v4, ev4, H⟩ := nm_o H
    refine x_getIe fr_X12_365 dX12_see_131 c3 rfl ev4 ?_
    obtain ⟨rfl, rfl⟩ := so_1 H
    exact x_iret dX12_see_134 rfl rfl
  · replace H := ite_m H c2
    refine x_aload_n dX12_see_105 rfl 0 rfl ?_
    obtain ⟨c5, H⟩ := ko_o H
    obtain ⟨a6, c7, H⟩ := kr_o H
    refine x_getR fr_X12_121 dX12_see_106 c5 rfl c7 ?_
    refine x_iload_n dX12_see_109 rfl 2 rfl ?_
    refine x_aload_n dX12_see_110 rfl 0 rfl ?_
    obtain ⟨a8, c9, H⟩ := kr_o H
    refine x_getR fr_X12_7 dX12_see_111 c5 rfl c9 ?_
    refine x_iload_n dX12_see_114 rfl 2 rfl ?_
    obtain ⟨n11, c10, H⟩ := ka_o H
    obtain ⟨c12, H⟩ := chk_o H
    refine x_iald dX12_see_115 c10 (inb_in.mp c12) ?_
    obtain ⟨n14, c13, H⟩ := ka_o H
    obtain ⟨c15, H⟩ := chk_o H
    refine x_iast dX12_see_116 c13 (inb_in.mp c15) ?_
    obtain ⟨v16, ev16, H⟩ := nm_o H
    refine x_iinc (v := v16) (lv' := [(3, .int v16), (0, .ref x0), (1, .int x1)]) dX12_see_117 2 rfl (by decide) ev16 rfl ?_
    refine x_goto (tgt := 100) dX12_see_120 (by decide) ?_
    refine Ex.sub [1, 2, 0] rfl ?_
    exact hk100 H
def f_X12_see_100 : Nat → Nat → Int32 → Int32 → aH → Option (Int32 × aH)
  | 0 => fun _ _ _ _ => none
  | n + 1 => b_X12_see_100 (f_X12_see_100 n)
set_option maxRecDepth 100000 in
set_option maxHeartbeats 4000000 in
theorem t_X12_see_100 {Γ : gS} {d : Nat} (hd : 1 ≤ d) (n : Nat) : ∀ {x0 : Nat} {x1 : Int32} {x3 : Int32} {h : aH} {r : Int32} {h' : aH}, f_X12_see_100 n x0 x1 x3 h = some (r, h') → Ex Γ gX12_see d 100 [(0, .ref x0), (1, .int x1), (3, .int x3)] [] h (some (.int r)) h' := by
  induction n with
  | zero => intro x0 x1 x3 h r h' H; cases H
  | succ n ih => intro x0 x1 x3 h r h' H; exact tb_X12_see_100 hd ih H
def f_X12_see_88 (x0 : Nat) (x1 : Int32) (x2 : Int32) (h : aH) : Option (Int32 × aH) :=
  if x2 = 0 then
    ko h x0 11 <|
    bd (f_X12_refuses x0 1 h) fun v18 h19 =>
    some (v18, h19)
  else
    f_X12_see_100 FU x0 x1 0 h
set_option maxRecDepth 100000 in
set_option maxHeartbeats 4000000 in
theorem t_X12_see_88 {Γ : gS} {d : Nat} (hd : 1 ≤ d) {x0 : Nat} {x1 : Int32} {x2 : Int32} {h : aH} {r : Int32} {h' : aH} (H : f_X12_see_88 x0 x1 x2 h = some (r, h')) : Ex Γ gX12_see d 88 [(0, .ref x0), (1, .int x1), (2, .int x2)] [] h (some (.int r)) h' := by
  unfold f_X12_see_88 at H
  obtain ⟨d, rfl⟩ : ∃ e, d = e + 1 := ⟨d - 1, by omega⟩
  refine x_iload_n dX12_see_88 rfl 2 rfl ?_
  refine x_if_ne (tgt := 98) dX12_see_89 (by decide) (fun c17 => ?_) (fun c17 => ?_)
  · replace H := ite_m H c17
    refine x_iconst (v := 0) dX12_see_98 (by decide) ?_
    refine x_istore_n (lv' := [(3, .int 0), (0, .ref x0), (1, .int x1), (2, .int x2)]) dX12_see_99 rfl (by decide) rfl rfl ?_
    refine Ex.sub [1, 2, 0] rfl ?_
    exact t_X12_see_100 hd FU H
  · replace H := ite_p H c17
    refine x_aload_n dX12_see_92 rfl 0 rfl ?_
    refine x_iconst (v := 1) dX12_see_93 (by decide) ?_
    obtain ⟨c21, H⟩ := ko_o H
    obtain ⟨v18, h19, hc20, H⟩ := bd_o H
    refine x_callVi (As := [.int 1]) (q := (RX12, TX12, 103)) dX12_see_94 mi_X12_refuses lk_X12_345 im_X12_refuses se_X12_refuses rfl c21 rfl rfl (Nat.le_of_ble_eq_true rfl) (t_X12_refuses (by omega) hc20) ?_
    obtain ⟨rfl, rfl⟩ := so_1 H
    exact x_iret dX12_see_97 rfl rfl
def b_X12_see_43 (k43 : Nat → Int32 → Int32 → Int32 → aH → Option (Int32 × aH)) (x0 : Nat) (x1 : Int32) (x2 : Int32) (x3 : Int32) (h : aH) : Option (Int32 × aH) :=
  if x1 ≤ x3 then
    f_X12_see_88 x0 x1 x2 h
  else
    if x2 = 0 then
      f_X12_see_88 x0 x1 x2 h
    else
      ko h x0 11 <|
      kr (hR h x0 0) fun a25 =>
      ka h a25 .int fun n28 =>
      chk (inb x3 n28 = true) <|
      if 128 ≤ (hI h a25 x3.toNatClampNeg) then
        f_X12_see_80 k43 x0 x1 x3 h
      else
        chk (inb (x3 + 1) n28 = true) <|
        if 1 < (hI h a25 (x3 + 1 : Int32).toNatClampNeg) then
          f_X12_see_80 k43 x0 x1 x3 h
        else
          f_X12_see_81 k43 x0 x1 x3 1 h
set_option maxRecDepth 100000 in
set_option maxHeartbeats 4000000 in
theorem tb_X12_see_43 {Γ : gS} {d : Nat} (hd : 1 ≤ d) {k43 : Nat → Int32 → Int32 → Int32 → aH → Option (Int32 × aH)} (hk43 : ∀ {x0 : Nat} {x1 : Int32} {x2 : Int32} {x3 : Int32} {h : aH} {r : Int32} {h' : aH}, k43 x0 x1 x2 x3 h = some (r, h') → Ex Γ gX12_see d 43 [(0, .ref x0), (1, .int x1), (2, .int x2), (3, .int x3)] [] h (some (.int r)) h') {x0 : Nat} {x1 : Int32} {x2 : Int32} {x3 : Int32} {h : aH} {r : Int32} {h' : aH} (H : b_X12_see_43 k43 x0 x1 x2 x3 h = some (r, h')) : Ex Γ gX12_see d 43 [(0, .ref x0), (1, .int x1), (2, .int x2), (3, .int x3)] [] h (some (.int r)) h' := by
  unfold b_X12_see_43 at H
  obtain ⟨d, rfl⟩ : ∃ e, d = e + 1 := ⟨d - 1, by omega⟩
  refine x_iload_n dX12_see_43 rfl 3 rfl ?_
  refine x_iload_n dX12_see_44 rfl 1 rfl ?_
  refine x_icmp_ge (tgt := 88) dX12_see_45 (by decide) (fun c22 => ?_) (fun c22 => ?_)
  · replace H := ite_p H c22
    refine Ex.sub [0, 1, 2] rfl ?_
    exact t_X12_see_88 hd H
  · replace H := ite_m H c22
    refine x_iload_n dX12_see_48 rfl 2 rfl ?_
    refine x_if_eq (tgt := 88) dX12_see_49 (by decide) (fun c23 => ?_) (fun c23 => ?_)
    · replace H := ite_p H c23
      refine Ex.sub [0, 1, 2] rfl ?_
      exact t_X12_see_88 hd H
    · replace H := ite_m H c23
      refine x_aload_n dX12_see_52 rfl 0 rfl ?_
      obtain ⟨c24, H⟩ := ko_o H
      obtain ⟨a25, c26, H⟩ := kr_o H
      refine x_getR fr_X12_7 dX12_see_53 c24 rfl c26 ?_
      refine x_iload_n dX12_see_56 rfl 3 rfl ?_
      obtain ⟨n28, c27, H⟩ := ka_o H
      obtain ⟨c29, H⟩ := chk_o H
      refine x_iald dX12_see_57 c27 (inb_in.mp c29) ?_
      refine x_sipush (v := 128) dX12_see_58 (by decide) ?_
      refine x_icmp_ge (tgt := 80) dX12_see_61 (by decide) (fun c30 => ?_) (fun c30 => ?_)
      · replace H := ite_p H c30
        refine Ex.sub [0, 1, 3] rfl ?_
        exact t_X12_see_80 hd hk43 H
      · replace H := ite_m H c30
        refine x_aload_n dX12_see_64 rfl 0 rfl ?_
        refine x_getR fr_X12_7 dX12_see_65 c24 rfl c26 ?_
        refine x_iload_n dX12_see_68 rfl 3 rfl ?_
        refine x_iconst (v := 1) dX12_see_69 (by decide) ?_
        refine x_iadd dX12_see_70 ?_
        obtain ⟨c31, H⟩ := chk_o H
        refine x_iald dX12_see_71 c27 (inb_in.mp c31) ?_
        refine x_iconst (v := 1) dX12_see_72 (by decide) ?_
        refine x_icmp_gt (tgt := 80) dX12_see_73 (by decide) (fun c32 => ?_) (fun c32 => ?_)
        · replace H := ite_p H c32
          refine Ex.sub [0, 1, 3] rfl ?_
          exact t_X12_see_80 hd hk43 H
        · replace H := ite_m H c32
          refine x_iconst (v := 1) dX12_see_76 (by decide) ?_
          refine x_goto (tgt := 81) dX12_see_77 (by decide) ?_
          refine Ex.sub [0, 1, 3] rfl ?_
          exact t_X12_see_81 hd hk43 H
def f_X12_see_43 : Nat → Nat → Int32 → Int32 → Int32 → aH → Option (Int32 × aH)
  | 0 => fun _ _ _ _ _ => none
  | n + 1 => b_X12_see_43 (f_X12_see_43 n)
set_option maxRecDepth 100000 in
set_option maxHeartbeats 4000000 in
theorem t_X12_see_43 {Γ : gS} {d : Nat} (hd : 1 ≤ d) (n : Nat) : ∀ {x0 : Nat} {x1 : Int32} {x2 : Int32} {x3 : Int32} {h : aH} {r : Int32} {h' : aH}, f_X12_see_43 n x0 x1 x2 x3 h = some (r, h') → Ex Γ gX12_see d 43 [(0, .ref x0), (1, .int x1), (2, .int x2), (3, .int x3)] [] h (some (.int r)) h' := by
  induction n with
  | zero => intro x0 x1 x2 x3 h r h' H; cases H
  | succ n ih => intro x0 x1 x2 x3 h r h' H; exact tb_X12_see_43 hd ih H
def f_X12_see_40 (x0 : Nat) (x1 : Int32) (s0 : Int32) (h : aH) : Option (Int32 × aH) :=
  f_X12_see_43 FU x0 x1 s0 0 h
set_option maxRecDepth 100000 in
set_option maxHeartbeats 4000000 in
theorem t_X12_see_40 {Γ : gS} {d : Nat} (hd : 1 ≤ d) {x0 : Nat} {x1 : Int32} {s0 : Int32} {h : aH} {r : Int32} {h' : aH} (H : f_X12_see_40 x0 x1 s0 h = some (r, h')) : Ex Γ gX12_see d 40 [(0, .ref x0), (1, .int x1)] [.int s0] h (some (.int r)) h' := by
  unfold f_X12_see_40 at H
  obtain ⟨d, rfl⟩ : ∃ e, d = e + 1 := ⟨d - 1, by omega⟩
  refine x_istore_n (lv' := [(2, .int s0), (0, .ref x0), (1, .int x1)]) dX12_see_40 rfl (by decide) rfl rfl ?_
  refine x_iconst (v := 0) dX12_see_41 (by decide) ?_
  refine x_istore_n (lv' := [(3, .int 0), (2, .int s0), (0, .ref x0), (1, .int x1)]) dX12_see_42 rfl (by decide) rfl rfl ?_
  refine Ex.sub [2, 3, 1, 0] rfl ?_
  exact t_X12_see_43 hd FU H
def f_X12_see_39 (x0 : Nat) (x1 : Int32) (h : aH) : Option (Int32 × aH) :=
  f_X12_see_40 x0 x1 0 h
set_option maxRecDepth 100000 in
set_option maxHeartbeats 4000000 in
theorem t_X12_see_39 {Γ : gS} {d : Nat} (hd : 1 ≤ d) {x0 : Nat} {x1 : Int32} {h : aH} {r : Int32} {h' : aH} (H : f_X12_see_39 x0 x1 h = some (r, h')) : Ex Γ gX12_see d 39 [(0, .ref x0), (1, .int x1)] [] h (some (.int r)) h' := by
  unfold f_X12_see_39 at H
  obtain ⟨d, rfl⟩ : ∃ e, d = e + 1 := ⟨d - 1, by omega⟩
  refine x_iconst (v := 0) dX12_see_39 (by decide) ?_
  exact t_X12_see_40 hd H
def f_X12_see (x0 : Nat) (h : aH) : Option (Int32 × aH) :=
  ko h x0 11 <|
  nm (hI h x0 1) fun (v34 : Int32) =>
  nm (hI (sI h x0 1 0) x0 45) fun (v35 : Int32) =>
  if v35 = 0 then
    f_X12_see_39 x0 v34 (sI h x0 1 0)
  else
    if v34 ≤ 0 then
      f_X12_see_39 x0 v34 (sI h x0 1 0)
    else
      if (v34 - v34 / 2 * 2) = 0 then
        if 16 < (v34 / 2) then
          f_X12_see_39 x0 v34 (sI h x0 1 0)
        else
          f_X12_see_40 x0 v34 1 (sI h x0 1 0)
      else
        f_X12_see_39 x0 v34 (sI h x0 1 0)
set_option maxRecDepth 100000 in
set_option maxHeartbeats 4000000 in
theorem t_X12_see {Γ : gS} {d : Nat} (hd : 1 ≤ d) {x0 : Nat} {h : aH} {r : Int32} {h' : aH} (H : f_X12_see x0 h = some (r, h')) : Mx Γ gX12_see d [.ref x0] h (some (.int r)) h' := by
  refine Mx.of (by decide +kernel) (Nat.le_of_ble_eq_true rfl) ?_
  unfold f_X12_see at H
  show Ex Γ gX12_see d 0 [(0, .ref x0)] [] h (some (.int r)) h'
  obtain ⟨d, rfl⟩ : ∃ e, d = e + 1 := ⟨d - 1, by omega⟩
  refine x_aload_n dX12_see_0 rfl 0 rfl ?_
  obtain ⟨c33, H⟩ := ko_o H
  refine x_getI fr_X12_222 dX12_see_1 c33 rfl ?_
  obtain ⟨v34, ev34, H⟩ := nm_o H
  refine x_istore_n (lv' := [(1, .int v34), (0, .ref x0)]) dX12_see_4 rfl (by decide) ev34 rfl ?_
  refine x_aload_n dX12_see_5 rfl 1 rfl ?_
  refine x_iconst (v := 0) dX12_see_6 (by decide) ?_
  refine x_putI fl_X12_222 dX12_see_7 c33 (fun e => by cases e) rfl ?_
  refine x_aload_n dX12_see_10 rfl 1 rfl ?_
  obtain ⟨v35, ev35, H⟩ := nm_o H
  refine x_getIe fr_X12_352 dX12_see_11 c33 rfl ev35 ?_
  refine x_if_eq (tgt := 39) dX12_see_14 (by decide) (fun c36 => ?_) (fun c36 => ?_)
  · replace H := ite_p H c36
    refine Ex.sub [1, 0] rfl ?_
    exact t_X12_see_39 hd H
  · replace H := ite_m H c36
    refine x_iload_n dX12_see_17 rfl 0 rfl ?_
    refine x_if_le (tgt := 39) dX12_see_18 (by decide) (fun c37 => ?_) (fun c37 => ?_)
    · replace H := ite_p H c37
      refine Ex.sub [1, 0] rfl ?_
      exact t_X12_see_39 hd H
    · replace H := ite_m H c37
      refine x_iload_n dX12_see_21 rfl 0 rfl ?_
      refine x_iconst (v := 2) dX12_see_22 (by decide) ?_
      refine x_irem dX12_see_23 (by decide) ?_
      refine x_if_ne (tgt := 39) dX12_see_24 (by decide) (fun c38 => ?_) (fun c38 => ?_)
      · replace H := ite_m H c38
        refine Ex.sub [1, 0] rfl ?_
        exact t_X12_see_39 hd H
      · replace H := ite_p H c38
        refine x_iload_n dX12_see_27 rfl 0 rfl ?_
        refine x_iconst (v := 2) dX12_see_28 (by decide) ?_
        refine x_idiv dX12_see_29 (by decide) ?_
        refine x_bipush (v := 16) dX12_see_30 (by decide) ?_
        refine x_icmp_gt (tgt := 39) dX12_see_32 (by decide) (fun c39 => ?_) (fun c39 => ?_)
        · replace H := ite_p H c39
          refine Ex.sub [1, 0] rfl ?_
          exact t_X12_see_39 hd H
        · replace H := ite_m H c39
          refine x_iconst (v := 1) dX12_see_35 (by decide) ?_
          refine x_goto (tgt := 40) dX12_see_36 (by decide) ?_
          refine Ex.sub [1, 0] rfl ?_
          exact t_X12_see_40 hd H
def f_X12_fitsFrom_25 (s0 : Int32) (h : aH) : Option (Int32 × aH) :=
  chk (narrow .boolean (.int s0) = .int s0) <|
  some (s0, h)
set_option maxRecDepth 100000 in
set_option maxHeartbeats 4000000 in
theorem t_X12_fitsFrom_25 {Γ : gS} {d : Nat} (hd : 5 ≤ d) {s0 : Int32} {h : aH} {r : Int32} {h' : aH} (H : f_X12_fitsFrom_25 s0 h = some (r, h')) : Ex Γ gX12_fitsFrom d 25 [] [.int s0] h (some (.int r)) h' := by
  unfold f_X12_fitsFrom_25 at H
  obtain ⟨d, rfl⟩ : ∃ e, d = e + 1 := ⟨d - 1, by omega⟩
  obtain ⟨c1, H⟩ := chk_o H
  obtain ⟨rfl, rfl⟩ := so_1 H
  exact x_iret dX12_fitsFrom_25 rfl c1
def f_X12_fitsFrom (x0 : Nat) (x1 : Int32) (x2 : Int32) (x3 : Int32) (h : aH) : Option (Int32 × aH) :=
  ko h x0 11 <|
  bd (f_X12_baseFrom x0 x1 ((x2 + x3) &&& 4095) h) fun v2 h3 =>
  ko h3 x0 11 <|
  bd (f_X12_baseOf x0 x1 h3) fun v5 h6 =>
  if v2 = v5 then
    f_X12_fitsFrom_25 1 h6
  else
    f_X12_fitsFrom_25 0 h6
set_option maxRecDepth 100000 in
set_option maxHeartbeats 4000000 in
theorem t_X12_fitsFrom {Γ : gS} {d : Nat} (hd : 5 ≤ d) {x0 : Nat} {x1 : Int32} {x2 : Int32} {x3 : Int32} {h : aH} {r : Int32} {h' : aH} (H : f_X12_fitsFrom x0 x1 x2 x3 h = some (r, h')) : Mx Γ gX12_fitsFrom d [.ref x0, .int x1, .int x2, .int x3] h (some (.int r)) h' := by
  refine Mx.of (by decide +kernel) (Nat.le_of_ble_eq_true rfl) ?_
  unfold f_X12_fitsFrom at H
  show Ex Γ gX12_fitsFrom d 0 [(0, .ref x0), (1, .int x1), (2, .int x2), (3, .int x3)] [] h (some (.int r)) h'
  obtain ⟨d, rfl⟩ : ∃ e, d = e + 1 := ⟨d - 1, by omega⟩
  refine x_aload_n dX12_fitsFrom_0 rfl 0 rfl ?_
  refine x_iload_n dX12_fitsFrom_1 rfl 1 rfl ?_
  refine x_iload_n dX12_fitsFrom_2 rfl 2 rfl ?_
  refine x_iload_n dX12_fitsFrom_3 rfl 3 rfl ?_
  refine x_iadd dX12_fitsFrom_4 ?_
  refine x_sipush (v := 4095) dX12_fitsFrom_5 (by decide) ?_
  refine x_iand dX12_fitsFrom_8 ?_
  obtain ⟨c10, H⟩ := ko_o H
  obtain ⟨v2, h3, hc4, H⟩ := bd_o H
  refine x_callVi (As := [.int x1, .int ((x2 + x3) &&& 4095)]) (q := (RX12, TX12, 103)) dX12_fitsFrom_9 mi_X12_baseFrom lk_X12_409 im_X12_baseFrom se_X12_baseFrom rfl c10 rfl rfl (Nat.le_of_ble_eq_true rfl) (t_X12_baseFrom (by omega) hc4) ?_
  refine x_aload_n dX12_fitsFrom_12 rfl 0 rfl ?_
  refine x_iload_n dX12_fitsFrom_13 rfl 1 rfl ?_
  obtain ⟨c9, H⟩ := ko_o H
  obtain ⟨v5, h6, hc7, H⟩ := bd_o H
  refine x_callVi (As := [.int x1]) (q := (RX12, TX12, 103)) dX12_fitsFrom_14 mi_X12_baseOf lk_X12_412 im_X12_baseOf se_X12_baseOf rfl c9 rfl rfl (Nat.le_of_ble_eq_true rfl) (t_X12_baseOf (by omega) hc7) ?_
  refine x_icmp_ne (tgt := 24) dX12_fitsFrom_17 (by decide) (fun c8 => ?_) (fun c8 => ?_)
  · replace H := ite_m H c8
    refine x_iconst (v := 0) dX12_fitsFrom_24 (by decide) ?_
    refine Ex.sub [] rfl ?_
    exact t_X12_fitsFrom_25 hd H
  · replace H := ite_p H c8
    refine x_iconst (v := 1) dX12_fitsFrom_20 (by decide) ?_
    refine x_goto (tgt := 25) dX12_fitsFrom_21 (by decide) ?_
    refine Ex.sub [] rfl ?_
    exact t_X12_fitsFrom_25 hd H
def f_X12_isPlace_62 (k18 : Nat → Int32 → Int32 → Int32 → aH → Option (Int32 × aH)) (x0 : Nat) (x1 : Int32) (x2 : Int32) (x3 : Int32) (s0 : Int32) (s1 : Int32) (h : aH) : Option (Int32 × aH) :=
  if s0 = s1 then
    nm (x3 + 1) fun (v2 : Int32) =>
    k18 x0 x1 x2 v2 h
  else
    some (0, h)
set_option maxRecDepth 100000 in
set_option maxHeartbeats 4000000 in
theorem t_X12_isPlace_62 {Γ : gS} {d : Nat} (hd : 6 ≤ d) {k18 : Nat → Int32 → Int32 → Int32 → aH → Option (Int32 × aH)} (hk18 : ∀ {x0 : Nat} {x1 : Int32} {x2 : Int32} {x3 : Int32} {h : aH} {r : Int32} {h' : aH}, k18 x0 x1 x2 x3 h = some (r, h') → Ex Γ gX12_isPlace d 18 [(0, .ref x0), (1, .int x1), (2, .int x2), (3, .int x3)] [] h (some (.int r)) h') {x0 : Nat} {x1 : Int32} {x2 : Int32} {x3 : Int32} {s0 : Int32} {s1 : Int32} {h : aH} {r : Int32} {h' : aH} (H : f_X12_isPlace_62 k18 x0 x1 x2 x3 s0 s1 h = some (r, h')) : Ex Γ gX12_isPlace d 62 [(0, .ref x0), (1, .int x1), (2, .int x2), (3, .int x3)] [.int s1, .int s0] h (some (.int r)) h' := by
  unfold f_X12_isPlace_62 at H
  obtain ⟨d, rfl⟩ : ∃ e, d = e + 1 := ⟨d - 1, by omega⟩
  refine x_icmp_eq (tgt := 67) dX12_isPlace_62 (by decide) (fun c1 => ?_) (fun c1 => ?_)
  · replace H := ite_p H c1
    obtain ⟨v2, ev2, H⟩ := nm_o H
    refine x_iinc (v := v2) (lv' := [(3, .int v2), (0, .ref x0), (1, .int x1), (2, .int x2)]) dX12_isPlace_67 3 rfl (by decide) ev2 rfl ?_
    refine x_goto (tgt := 18) dX12_isPlace_70 (by decide) ?_
    refine Ex.sub [1, 2, 3, 0] rfl ?_
    exact hk18 H
  · replace H := ite_m H c1
    refine x_iconst (v := 0) dX12_isPlace_65 (by decide) ?_
    obtain ⟨rfl, rfl⟩ := so_1 H
    exact x_iret dX12_isPlace_66 rfl (by decide)
def b_X12_isPlace_18 (k18 : Nat → Int32 → Int32 → Int32 → aH → Option (Int32 × aH)) (x0 : Nat) (x1 : Int32) (x2 : Int32) (x3 : Int32) (h : aH) : Option (Int32 × aH) :=
  ko h x0 11 <|
  if (hI h x0 58) ≤ x3 then
    some (1, h)
  else
    kr (hR h x0 59) fun a5 =>
    ka h a5 .int fun n8 =>
    chk (inb (2 * x3) n8 = true) <|
    bd (f_X12_fitsFrom x0 x1 x2 ((hI h a5 (2 * x3 : Int32).toNatClampNeg) - 64) h) fun v10 h11 =>
    ko h11 x0 11 <|
    kr (hR h11 x0 59) fun a14 =>
    ka h11 a14 .int fun n17 =>
    chk (inb ((2 * x3) + 1) n17 = true) <|
    if (hI h11 a14 ((2 * x3) + 1 : Int32).toNatClampNeg) = 1 then
      f_X12_isPlace_62 k18 x0 x1 x2 x3 v10 1 h11
    else
      f_X12_isPlace_62 k18 x0 x1 x2 x3 v10 0 h11
set_option maxRecDepth 100000 in
set_option maxHeartbeats 4000000 in
theorem tb_X12_isPlace_18 {Γ : gS} {d : Nat} (hd : 6 ≤ d) {k18 : Nat → Int32 → Int32 → Int32 → aH → Option (Int32 × aH)} (hk18 : ∀ {x0 : Nat} {x1 : Int32} {x2 : Int32} {x3 : Int32} {h : aH} {r : Int32} {h' : aH}, k18 x0 x1 x2 x3 h = some (r, h') → Ex Γ gX12_isPlace d 18 [(0, .ref x0), (1, .int x1), (2, .int x2), (3, .int x3)] [] h (some (.int r)) h') {x0 : Nat} {x1 : Int32} {x2 : Int32} {x3 : Int32} {h : aH} {r : Int32} {h' : aH} (H : b_X12_isPlace_18 k18 x0 x1 x2 x3 h = some (r, h')) : Ex Γ gX12_isPlace d 18 [(0, .ref x0), (1, .int x1), (2, .int x2), (3, .int x3)] [] h (some (.int r)) h' := by
  unfold b_X12_isPlace_18 at H
  obtain ⟨d, rfl⟩ : ∃ e, d = e + 1 := ⟨d - 1, by omega⟩
  refine x_iload_n dX12_isPlace_18 rfl 3 rfl ?_
  refine x_aload_n dX12_isPlace_19 rfl 0 rfl ?_
  obtain ⟨c3, H⟩ := ko_o H
  refine x_getI fr_X12_365 dX12_isPlace_20 c3 rfl ?_
  refine x_icmp_ge (tgt := 73) dX12_isPlace_23 (by decide) (fun c4 => ?_) (fun c4 => ?_)
  · replace H := ite_p H c4
    refine x_iconst (v := 1) dX12_isPlace_73 (by decide) ?_
    obtain ⟨rfl, rfl⟩ := so_1 H
    exact x_iret dX12_isPlace_74 rfl (by decide)
  · replace H := ite_m H c4
    refine x_aload_n dX12_isPlace_26 rfl 0 rfl ?_
    refine x_iload_n dX12_isPlace_27 rfl 1 rfl ?_
    refine x_iload_n dX12_isPlace_28 rfl 2 rfl ?_
    refine x_aload_n dX12_isPlace_29 rfl 0 rfl ?_
    obtain ⟨a5, c6, H⟩ := kr_o H
    refine x_getR fr_X12_121 dX12_isPlace_30 c3 rfl c6 ?_
    refine x_iconst (v := 2) dX12_isPlace_33 (by decide) ?_
    refine x_iload_n dX12_isPlace_34 rfl 3 rfl ?_
    refine x_imul dX12_isPlace_35 ?_
    obtain ⟨n8, c7, H⟩ := ka_o H
    obtain ⟨c9, H⟩ := chk_o H
    refine x_iald dX12_isPlace_36 c7 (inb_in.mp c9) ?_
    refine x_bipush (v := 64) dX12_isPlace_37 (by decide) ?_
    refine x_isub dX12_isPlace_39 ?_
    obtain ⟨v10, h11, hc12, H⟩ := bd_o H
    refine x_callVi (As := [.int x1, .int x2, .int ((hI h a5 (2 * x3 : Int32).toNatClampNeg) - 64)]) (q := (RX12, TX12, 103)) dX12_isPlace_40 mi_X12_fitsFrom lk_X12_512 im_X12_fitsFrom se_X12_fitsFrom rfl c3 rfl rfl (Nat.le_of_ble_eq_true rfl) (t_X12_fitsFrom (by omega) hc12) ?_
    refine x_aload_n dX12_isPlace_43 rfl 0 rfl ?_
    obtain ⟨c13, H⟩ := ko_o H
    obtain ⟨a14, c15, H⟩ := kr_o H
    refine x_getR fr_X12_121 dX12_isPlace_44 c13 rfl c15 ?_
    refine x_iconst (v := 2) dX12_isPlace_47 (by decide) ?_
    refine x_iload_n dX12_isPlace_48 rfl 3 rfl ?_
    refine x_imul dX12_isPlace_49 ?_
    refine x_iconst (v := 1) dX12_isPlace_50 (by decide) ?_
    refine x_iadd dX12_isPlace_51 ?_
    obtain ⟨n17, c16, H⟩ := ka_o H
    obtain ⟨c18, H⟩ := chk_o H
    refine x_iald dX12_isPlace_52 c16 (inb_in.mp c18) ?_
    refine x_iconst (v := 1) dX12_isPlace_53 (by decide) ?_
    refine x_icmp_ne (tgt := 61) dX12_isPlace_54 (by decide) (fun c19 => ?_) (fun c19 => ?_)
    · replace H := ite_m H c19
      refine x_iconst (v := 0) dX12_isPlace_61 (by decide) ?_
      exact t_X12_isPlace_62 hd hk18 H
    · replace H := ite_p H c19
      refine x_iconst (v := 1) dX12_isPlace_57 (by decide) ?_
      refine x_goto (tgt := 62) dX12_isPlace_58 (by decide) ?_
      exact t_X12_isPlace_62 hd hk18 H
def f_X12_isPlace_18 : Nat → Nat → Int32 → Int32 → Int32 → aH → Option (Int32 × aH)
  | 0 => fun _ _ _ _ _ => none
  | n + 1 => b_X12_isPlace_18 (f_X12_isPlace_18 n)
set_option maxRecDepth 100000 in
set_option maxHeartbeats 4000000 in
theorem t_X12_isPlace_18 {Γ : gS} {d : Nat} (hd : 6 ≤ d) (n : Nat) : ∀ {x0 : Nat} {x1 : Int32} {x2 : Int32} {x3 : Int32} {h : aH} {r : Int32} {h' : aH}, f_X12_isPlace_18 n x0 x1 x2 x3 h = some (r, h') → Ex Γ gX12_isPlace d 18 [(0, .ref x0), (1, .int x1), (2, .int x2), (3, .int x3)] [] h (some (.int r)) h' := by
  induction n with
  | zero => intro x0 x1 x2 x3 h r h' H; cases H
  | succ n ih => intro x0 x1 x2 x3 h r h' H; exact tb_X12_isPlace_18 hd ih H
def f_X12_isPlace (x0 : Nat) (x1 : Int32) (x2 : Int32) (h : aH) : Option (Int32 × aH) :=
  ko h x0 11 <|
  bd (f_X12_baseFrom x0 x1 x2 h) fun v20 h21 =>
  ko h21 x0 11 <|
  bd (f_X12_baseOf x0 x1 h21) fun v23 h24 =>
  if v20 = v23 then
    f_X12_isPlace_18 FU x0 x1 x2 0 h24
  else
    some (0, h24)
set_option maxRecDepth 100000 in
set_option maxHeartbeats 4000000 in
theorem t_X12_isPlace {Γ : gS} {d : Nat} (hd : 6 ≤ d) {x0 : Nat} {x1 : Int32} {x2 : Int32} {h : aH} {r : Int32} {h' : aH} (H : f_X12_isPlace x0 x1 x2 h = some (r, h')) : Mx Γ gX12_isPlace d [.ref x0, .int x1, .int x2] h (some (.int r)) h' := by
  refine Mx.of (by decide +kernel) (Nat.le_of_ble_eq_true rfl) ?_
  unfold f_X12_isPlace at H
  show Ex Γ gX12_isPlace d 0 [(0, .ref x0), (1, .int x1), (2, .int x2)] [] h (some (.int r)) h'
  obtain ⟨d, rfl⟩ : ∃ e, d = e + 1 := ⟨d - 1, by omega⟩
  refine x_aload_n dX12_isPlace_0 rfl 0 rfl ?_
  refine x_iload_n dX12_isPlace_1 rfl 1 rfl ?_
  refine x_iload_n dX12_isPlace_2 rfl 2 rfl ?_
  obtain ⟨c28, H⟩ := ko_o H
  obtain ⟨v20, h21, hc22, H⟩ := bd_o H
  refine x_callVi (As := [.int x1, .int x2]) (q := (RX12, TX12, 103)) dX12_isPlace_3 mi_X12_baseFrom lk_X12_409 im_X12_baseFrom se_X12_baseFrom rfl c28 rfl rfl (Nat.le_of_ble_eq_true rfl) (t_X12_baseFrom (by omega) hc22) ?_
  refine x_aload_n dX12_isPlace_6 rfl 0 rfl ?_
  refine x_iload_n dX12_isPlace_7 rfl 1 rfl ?_
  obtain ⟨c27, H⟩ := ko_o H
  obtain ⟨v23, h24, hc25, H⟩ := bd_o H
  refine x_callVi (As := [.int x1]) (q := (RX12, TX12, 103)) dX12_isPlace_8 mi_X12_baseOf lk_X12_412 im_X12_baseOf se_X12_baseOf rfl c27 rfl rfl (Nat.le_of_ble_eq_true rfl) (t_X12_baseOf (by omega) hc25) ?_
  refine x_icmp_eq (tgt := 16) dX12_isPlace_11 (by decide) (fun c26 => ?_) (fun c26 => ?_)
  · replace H := ite_p H c26
    refine x_iconst (v := 0) dX12_isPlace_16 (by decide) ?_
    refine x_istore_n (lv' := [(3, .int 0), (0, .ref x0), (1, .int x1), (2, .int x2)]) dX12_isPlace_17 rfl (by decide) rfl rfl ?_
    refine Ex.sub [1, 2, 3, 0] rfl ?_
    exact t_X12_isPlace_18 hd FU H
  · replace H := ite_m H c26
    refine x_iconst (v := 0) dX12_isPlace_14 (by decide) ?_
    obtain ⟨rfl, rfl⟩ := so_1 H
    exact x_iret dX12_isPlace_15 rfl (by decide)
def f_X12_laysPlaces_45 (k7 : Nat → Int32 → Int32 → aH → Option (Unit × aH)) (x0 : Nat) (x1 : Int32) (x2 : Int32) (h : aH) : Option (Unit × aH) :=
  nm (x2 + 1) fun (v1 : Int32) =>
  k7 x0 x1 v1 h
set_option maxRecDepth 100000 in
set_option maxHeartbeats 4000000 in
theorem t_X12_laysPlaces_45 {Γ : gS} {d : Nat} (hd : 7 ≤ d) {k7 : Nat → Int32 → Int32 → aH → Option (Unit × aH)} (hk7 : ∀ {x0 : Nat} {x1 : Int32} {x2 : Int32} {h : aH} {r : Unit} {h' : aH}, k7 x0 x1 x2 h = some (r, h') → Ex Γ gX12_laysPlaces d 7 [(0, .ref x0), (1, .int x1), (2, .int x2)] [] h none h') {x0 : Nat} {x1 : Int32} {x2 : Int32} {h : aH} {r : Unit} {h' : aH} (H : f_X12_laysPlaces_45 k7 x0 x1 x2 h = some (r, h')) : Ex Γ gX12_laysPlaces d 45 [(0, .ref x0), (1, .int x1), (2, .int x2)] [] h none h' := by
  unfold f_X12_laysPlaces_45 at H
  obtain ⟨d, rfl⟩ : ∃ e, d = e + 1 := ⟨d - 1, by omega⟩
  obtain ⟨v1, ev1, H⟩ := nm_o H
  refine x_iinc (v := v1) (lv' := [(2, .int v1), (0, .ref x0), (1, .int x1)]) dX12_laysPlaces_45 2 rfl (by decide) ev1 rfl ?_
  refine x_goto (tgt := 7) dX12_laysPlaces_48 (by decide) ?_
  refine Ex.sub [1, 2, 0] rfl ?_
  exact hk7 H
def b_X12_laysPlaces_7 (k7 : Nat → Int32 → Int32 → aH → Option (Unit × aH)) (x0 : Nat) (x1 : Int32) (x2 : Int32) (h : aH) : Option (Unit × aH) :=
  if 4096 ≤ x2 then
    some ((), h)
  else
    ko h x0 11 <|
    kr (hR h x0 60) fun a4 =>
    bd (f_X12_isPlace x0 x1 x2 h) fun v6 h7 =>
    ka h7 a4 .boolean fun n10 =>
    chk (inb x2 n10 = true) <|
    ko h7 x0 11 <|
    kr (hR h7 x0 60) fun a13 =>
    ka h7 a13 .boolean fun n16 =>
    chk (inb x2 n16 = true) <|
    nm (hI (sI h7 a4 x2.toNatClampNeg (v6 &&& 1)) a13 x2.toNatClampNeg) fun (v18 : Int32) =>
    if v18 = 0 then
      f_X12_laysPlaces_45 k7 x0 x1 x2 (sI h7 a4 x2.toNatClampNeg (v6 &&& 1))
    else
      nm (hI (sI h7 a4 x2.toNatClampNeg (v6 &&& 1)) x0 61) fun (v20 : Int32) =>
      f_X12_laysPlaces_45 k7 x0 x1 x2 (sI (sI h7 a4 x2.toNatClampNeg (v6 &&& 1)) x0 61 (v20 + 1))
set_option maxRecDepth 100000 in
set_option maxHeartbeats 4000000 in
theorem tb_X12_laysPlaces_7 {Γ : gS} {d : Nat} (hd : 7 ≤ d) {k7 : Nat → Int32 → Int32 → aH → Option (Unit × aH)} (hk7 : ∀ {x0 : Nat} {x1 : Int32} {x2 : Int32} {h : aH} {r : Unit} {h' : aH}, k7 x0 x1 x2 h = some (r, h') → Ex Γ gX12_laysPlaces d 7 [(0, .ref x0), (1, .int x1), (2, .int x2)] [] h none h') {x0 : Nat} {x1 : Int32} {x2 : Int32} {h : aH} {r : Unit} {h' : aH} (H : b_X12_laysPlaces_7 k7 x0 x1 x2 h = some (r, h')) : Ex Γ gX12_laysPlaces d 7 [(0, .ref x0), (1, .int x1), (2, .int x2)] [] h none h' := by
  unfold b_X12_laysPlaces_7 at H
  obtain ⟨d, rfl⟩ : ∃ e, d = e + 1 := ⟨d - 1, by omega⟩
  refine x_iload_n dX12_laysPlaces_7 rfl 2 rfl ?_
  refine x_sipush (v := 4096) dX12_laysPlaces_8 (by decide) ?_
  refine x_icmp_ge (tgt := 51) dX12_laysPlaces_11 (by decide) (fun c2 => ?_) (fun c2 => ?_)
  · replace H := ite_p H c2
    obtain ⟨-, rfl⟩ := so_1 H
    exact x_vret dX12_laysPlaces_51 rfl
  · replace H := ite_m H c2
    refine x_aload_n dX12_laysPlaces_14 rfl 0 rfl ?_
    obtain ⟨c3, H⟩ := ko_o H
    obtain ⟨a4, c5, H⟩ := kr_o H
    refine x_getR fr_X12_124 dX12_laysPlaces_15 c3 rfl c5 ?_
    refine x_iload_n dX12_laysPlaces_18 rfl 2 rfl ?_
    refine x_aload_n dX12_laysPlaces_19 rfl 0 rfl ?_
    refine x_iload_n dX12_laysPlaces_20 rfl 1 rfl ?_
    refine x_iload_n dX12_laysPlaces_21 rfl 2 rfl ?_
    obtain ⟨v6, h7, hc8, H⟩ := bd_o H
    refine x_callVi (As := [.int x1, .int x2]) (q := (RX12, TX12, 103)) dX12_laysPlaces_22 mi_X12_isPlace lk_X12_519 im_X12_isPlace se_X12_isPlace rfl c3 rfl rfl (Nat.le_of_ble_eq_true rfl) (t_X12_isPlace (by omega) hc8) ?_
    obtain ⟨n10, c9, H⟩ := ka_o H
    obtain ⟨c11, H⟩ := chk_o H
    refine x_zast dX12_laysPlaces_25 c9 (inb_in.mp c11) ?_
    refine x_aload_n dX12_laysPlaces_26 rfl 0 rfl ?_
    obtain ⟨c12, H⟩ := ko_o H
    obtain ⟨a13, c14, H⟩ := kr_o H
    refine x_getR fr_X12_124 dX12_laysPlaces_27 c12 rfl c14 ?_
    refine x_iload_n dX12_laysPlaces_30 rfl 2 rfl ?_
    obtain ⟨n16, c15, H⟩ := ka_o H
    obtain ⟨c17, H⟩ := chk_o H
    obtain ⟨v18, ev18, H⟩ := nm_o H
    refine x_zalde dX12_laysPlaces_31 c15 (inb_in.mp c17) ev18 ?_
    refine x_if_eq (tgt := 45) dX12_laysPlaces_32 (by decide) (fun c19 => ?_) (fun c19 => ?_)
    · replace H := ite_p H c19
      exact t_X12_laysPlaces_45 hd hk7 H
    · replace H := ite_m H c19
      refine x_aload_n dX12_laysPlaces_35 rfl 0 rfl ?_
      refine x_dup dX12_laysPlaces_36 rfl ?_
      obtain ⟨v20, ev20, H⟩ := nm_o H
      refine x_getIe fr_X12_516 dX12_laysPlaces_37 c12 rfl ev20 ?_
      refine x_iconst (v := 1) dX12_laysPlaces_40 (by decide) ?_
      refine x_iadd dX12_laysPlaces_41 ?_
      refine x_putI fl_X12_516 dX12_laysPlaces_42 c12 (fun e => by cases e) rfl ?_
      exact t_X12_laysPlaces_45 hd hk7 H
def f_X12_laysPlaces_7 : Nat → Nat → Int32 → Int32 → aH → Option (Unit × aH)
  | 0 => fun _ _ _ _ => none
  | n + 1 => b_X12_laysPlaces_7 (f_X12_laysPlaces_7 n)
set_option maxRecDepth 100000 in
set_option maxHeartbeats 4000000 in
theorem t_X12_laysPlaces_7 {Γ : gS} {d : Nat} (hd : 7 ≤ d) (n : Nat) : ∀ {x0 : Nat} {x1 : Int32} {x2 : Int32} {h : aH} {r : Unit} {h' : aH}, f_X12_laysPlaces_7 n x0 x1 x2 h = some (r, h') → Ex Γ gX12_laysPlaces d 7 [(0, .ref x0), (1, .int x1), (2, .int x2)] [] h none h' := by
  induction n with
  | zero => intro x0 x1 x2 h r h' H; cases H
  | succ n ih => intro x0 x1 x2 h r h' H; exact tb_X12_laysPlaces_7 hd ih H
def f_X12_laysPlaces (x0 : Nat) (x1 : Int32) (h : aH) : Option (Unit × aH) :=
  ko h x0 11 <|
  f_X12_laysPlaces_7 FU x0 x1 0 (sI h x0 61 0)
set_option maxRecDepth 100000 in
set_option maxHeartbeats 4000000 in
theorem t_X12_laysPlaces {Γ : gS} {d : Nat} (hd : 7 ≤ d) {x0 : Nat} {x1 : Int32} {h : aH} {r : Unit} {h' : aH} (H : f_X12_laysPlaces x0 x1 h = some (r, h')) : Mx Γ gX12_laysPlaces d [.ref x0, .int x1] h none h' := by
  refine Mx.of (by decide +kernel) (Nat.le_of_ble_eq_true rfl) ?_
  unfold f_X12_laysPlaces at H
  show Ex Γ gX12_laysPlaces d 0 [(0, .ref x0), (1, .int x1)] [] h none h'
  obtain ⟨d, rfl⟩ : ∃ e, d = e + 1 := ⟨d - 1, by omega⟩
  refine x_aload_n dX12_laysPlaces_0 rfl 0 rfl ?_
  refine x_iconst (v := 0) dX12_laysPlaces_1 (by decide) ?_
  obtain ⟨c21, H⟩ := ko_o H
  refine x_putI fl_X12_516 dX12_laysPlaces_2 c21 (fun e => by cases e) rfl ?_
  refine x_iconst (v := 0) dX12_laysPlaces_5 (by decide) ?_
  refine x_istore_n (lv' := [(2, .int 0), (0, .ref x0), (1, .int x1)]) dX12_laysPlaces_6 rfl (by decide) rfl rfl ?_
  refine Ex.sub [1, 2, 0] rfl ?_
  exact t_X12_laysPlaces_7 hd FU H
def f_X12_places_14 (h : aH) : Option (Int32 × aH) :=
  some ((-1), h)
set_option maxRecDepth 100000 in
set_option maxHeartbeats 4000000 in
theorem t_X12_places_14 {Γ : gS} {d : Nat} (hd : 8 ≤ d) {h : aH} {r : Int32} {h' : aH} (H : f_X12_places_14 h = some (r, h')) : Ex Γ gX12_places d 14 [] [] h (some (.int r)) h' := by
  unfold f_X12_places_14 at H
  obtain ⟨d, rfl⟩ : ∃ e, d = e + 1 := ⟨d - 1, by omega⟩
  refine x_iconst (v := (-1)) dX12_places_14 (by decide) ?_
  obtain ⟨rfl, rfl⟩ := so_1 H
  exact x_iret dX12_places_15 rfl rfl
def f_X12_places_71 (k39 : Nat → Int32 → Int32 → Int32 → aH → Option (Int32 × aH)) (x0 : Nat) (x2 : Int32) (x3 : Int32) (x4 : Int32) (h : aH) : Option (Int32 × aH) :=
  nm (x4 + 1) fun (v1 : Int32) =>
  k39 x0 x2 x3 v1 h
set_option maxRecDepth 100000 in
set_option maxHeartbeats 4000000 in
theorem t_X12_places_71 {Γ : gS} {d : Nat} (hd : 8 ≤ d) {k39 : Nat → Int32 → Int32 → Int32 → aH → Option (Int32 × aH)} (hk39 : ∀ {x0 : Nat} {x2 : Int32} {x3 : Int32} {x4 : Int32} {h : aH} {r : Int32} {h' : aH}, k39 x0 x2 x3 x4 h = some (r, h') → Ex Γ gX12_places d 39 [(0, .ref x0), (2, .int x2), (3, .int x3), (4, .int x4)] [] h (some (.int r)) h') {x0 : Nat} {x2 : Int32} {x3 : Int32} {x4 : Int32} {h : aH} {r : Int32} {h' : aH} (H : f_X12_places_71 k39 x0 x2 x3 x4 h = some (r, h')) : Ex Γ gX12_places d 71 [(0, .ref x0), (2, .int x2), (3, .int x3), (4, .int x4)] [] h (some (.int r)) h' := by
  unfold f_X12_places_71 at H
  obtain ⟨d, rfl⟩ : ∃ e, d = e + 1 := ⟨d - 1, by omega⟩
  obtain ⟨v1, ev1, H⟩ := nm_o H
  refine x_iinc (v := v1) (lv' := [(4, .int v1), (0, .ref x0), (2, .int x2), (3, .int x3)]) dX12_places_71 3 rfl (by decide) ev1 rfl ?_
  refine x_goto (tgt := 39) dX12_places_74 (by decide) ?_
  refine Ex.sub [1, 2, 3, 0] rfl ?_
  exact hk39 H
def b_X12_places_39 (k39 : Nat → Int32 → Int32 → Int32 → aH → Option (Int32 × aH)) (x0 : Nat) (x2 : Int32) (x3 : Int32) (x4 : Int32) (h : aH) : Option (Int32 × aH) :=
  if 4096 ≤ x4 then
    some ((-1), h)
  else
    ko h x0 11 <|
    kr (hR h x0 60) fun a4 =>
    ka h a4 .boolean fun n7 =>
    chk (inb x4 n7 = true) <|
    if (hI h a4 x4.toNatClampNeg) = 0 then
      f_X12_places_71 k39 x0 x2 x3 x4 h
    else
      if x3 = x2 then
        some (x4, h)
      else
        nm (x3 + 1) fun (v11 : Int32) =>
        f_X12_places_71 k39 x0 x2 v11 x4 h
set_option maxRecDepth 100000 in
set_option maxHeartbeats 4000000 in
theorem tb_X12_places_39 {Γ : gS} {d : Nat} (hd : 8 ≤ d) {k39 : Nat → Int32 → Int32 → Int32 → aH → Option (Int32 × aH)} (hk39 : ∀ {x0 : Nat} {x2 : Int32} {x3 : Int32} {x4 : Int32} {h : aH} {r : Int32} {h' : aH}, k39 x0 x2 x3 x4 h = some (r, h') → Ex Γ gX12_places d 39 [(0, .ref x0), (2, .int x2), (3, .int x3), (4, .int x4)] [] h (some (.int r)) h') {x0 : Nat} {x2 : Int32} {x3 : Int32} {x4 : Int32} {h : aH} {r : Int32} {h' : aH} (H : b_X12_places_39 k39 x0 x2 x3 x4 h = some (r, h')) : Ex Γ gX12_places d 39 [(0, .ref x0), (2, .int x2), (3, .int x3), (4, .int x4)] [] h (some (.int r)) h' := by
  unfold b_X12_places_39 at H
  obtain ⟨d, rfl⟩ : ∃ e, d = e + 1 := ⟨d - 1, by omega⟩
  refine x_iload dX12_places_39 3 rfl ?_
  refine x_sipush (v := 4096) dX12_places_41 (by decide) ?_
  refine x_icmp_ge (tgt := 77) dX12_places_44 (by decide) (fun c2 => ?_) (fun c2 => ?_)
  · replace H := ite_p H c2
    refine x_iconst (v := (-1)) dX12_places_77 (by decide) ?_
    obtain ⟨rfl, rfl⟩ := so_1 H
    exact x_iret dX12_places_78 rfl rfl
  · replace H := ite_m H c2
    refine x_aload_n dX12_places_47 rfl 0 rfl ?_
    obtain ⟨c3, H⟩ := ko_o H
    obtain ⟨a4, c5, H⟩ := kr_o H
    refine x_getR fr_X12_124 dX12_places_48 c3 rfl c5 ?_
    refine x_iload dX12_places_51 3 rfl ?_
    obtain ⟨n7, c6, H⟩ := ka_o H
    obtain ⟨c8, H⟩ := chk_o H
    refine x_zald dX12_places_53 c6 (inb_in.mp c8) ?_
    refine x_if_ne (tgt := 60) dX12_places_54 (by decide) (fun c9 => ?_) (fun c9 => ?_)
    · replace H := ite_m H c9
      refine x_iload_n dX12_places_60 rfl 2 rfl ?_
      refine x_iload_n dX12_places_61 rfl 1 rfl ?_
      refine x_icmp_ne (tgt := 68) dX12_places_62 (by decide) (fun c10 => ?_) (fun c10 => ?_)
      · replace H := ite_m H c10
        obtain ⟨v11, ev11, H⟩ := nm_o H
        refine x_iinc (v := v11) (lv' := [(3, .int v11), (0, .ref x0), (2, .int x2), (4, .int x4)]) dX12_places_68 2 rfl (by decide) ev11 rfl ?_
        refine Ex.sub [1, 2, 0, 3] rfl ?_
        exact t_X12_places_71 hd hk39 H
      · replace H := ite_p H c10
        refine x_iload dX12_places_65 3 rfl ?_
        obtain ⟨rfl, rfl⟩ := so_1 H
        exact x_iret dX12_places_67 rfl rfl
    · replace H := ite_p H c9
      refine x_goto (tgt := 71) dX12_places_57 (by decide) ?_
      exact t_X12_places_71 hd hk39 H
def f_X12_places_39 : Nat → Nat → Int32 → Int32 → Int32 → aH → Option (Int32 × aH)
  | 0 => fun _ _ _ _ _ => none
  | n + 1 => b_X12_places_39 (f_X12_places_39 n)
set_option maxRecDepth 100000 in
set_option maxHeartbeats 4000000 in
theorem t_X12_places_39 {Γ : gS} {d : Nat} (hd : 8 ≤ d) (n : Nat) : ∀ {x0 : Nat} {x2 : Int32} {x3 : Int32} {x4 : Int32} {h : aH} {r : Int32} {h' : aH}, f_X12_places_39 n x0 x2 x3 x4 h = some (r, h') → Ex Γ gX12_places d 39 [(0, .ref x0), (2, .int x2), (3, .int x3), (4, .int x4)] [] h (some (.int r)) h' := by
  induction n with
  | zero => intro x0 x2 x3 x4 h r h' H; cases H
  | succ n ih => intro x0 x2 x3 x4 h r h' H; exact tb_X12_places_39 hd ih H
def f_X12_places (x0 : Nat) (x1 : Int32) (x2 : Int32) (h : aH) : Option (Int32 × aH) :=
  ko h x0 11 <|
  bd (f_X12_isPointer x0 x1.toInt64 h) fun v12 h13 =>
  if v12 = 0 then
    f_X12_places_14 h13
  else
    if (-1) ≤ x2 then
      ko h13 x0 11 <|
      bd (f_X12_laysPlaces x0 (8 * x1) h13) fun _ h18 =>
      if x2 = (-1) then
        ko h18 x0 11 <|
        some (hI h18 x0 61, h18)
      else
        f_X12_places_39 FU x0 x2 0 0 h18
    else
      f_X12_places_14 h13
set_option maxRecDepth 100000 in
set_option maxHeartbeats 4000000 in
theorem t_X12_places {Γ : gS} {d : Nat} (hd : 8 ≤ d) {x0 : Nat} {x1 : Int32} {x2 : Int32} {h : aH} {r : Int32} {h' : aH} (H : f_X12_places x0 x1 x2 h = some (r, h')) : Mx Γ gX12_places d [.ref x0, .int x1, .int x2] h (some (.int r)) h' := by
  refine Mx.of (by decide +kernel) (Nat.le_of_ble_eq_true rfl) ?_
  unfold f_X12_places at H
  show Ex Γ gX12_places d 0 [(0, .ref x0), (1, .int x1), (2, .int x2)] [] h (some (.int r)) h'
  obtain ⟨d, rfl⟩ : ∃ e, d = e + 1 := ⟨d - 1, by omega⟩
  refine x_aload_n dX12_places_0 rfl 0 rfl ?_
  refine x_iload_n dX12_places_1 rfl 1 rfl ?_
  refine x_i2l dX12_places_2 ?_
  obtain ⟨c23, H⟩ := ko_o H
  obtain ⟨v12, h13, hc14, H⟩ := bd_o H
  refine x_callVi (As := [.long x1.toInt64]) (q := (RX12, TX12, 103)) dX12_places_3 mi_X12_isPointer lk_X12_418 im_X12_isPointer se_X12_isPointer rfl c23 rfl rfl (Nat.le_of_ble_eq_true rfl) (t_X12_isPointer (by omega) hc14) ?_
  refine x_if_eq (tgt := 14) dX12_places_6 (by decide) (fun c15 => ?_) (fun c15 => ?_)
  · replace H := ite_p H c15
    refine Ex.sub [] rfl ?_
    exact t_X12_places_14 hd H
  · replace H := ite_m H c15
    refine x_iload_n dX12_places_9 rfl 2 rfl ?_
    refine x_iconst (v := (-1)) dX12_places_10 (by decide) ?_
    refine x_icmp_ge (tgt := 16) dX12_places_11 (by decide) (fun c16 => ?_) (fun c16 => ?_)
    · replace H := ite_p H c16
      refine x_aload_n dX12_places_16 rfl 0 rfl ?_
      refine x_bipush (v := 8) dX12_places_17 (by decide) ?_
      refine x_iload_n dX12_places_19 rfl 1 rfl ?_
      refine x_imul dX12_places_20 ?_
      obtain ⟨c22, H⟩ := ko_o H
      obtain ⟨v17, h18, hc19, H⟩ := bd_o H
      refine x_callVv (As := [.int (8 * x1)]) (q := (RX12, TX12, 103)) dX12_places_21 mi_X12_laysPlaces lk_X12_522 im_X12_laysPlaces se_X12_laysPlaces rfl c22 rfl rfl (Nat.le_of_ble_eq_true rfl) (t_X12_laysPlaces (by omega) hc19) ?_
      refine x_iload_n dX12_places_24 rfl 2 rfl ?_
      refine x_iconst (v := (-1)) dX12_places_25 (by decide) ?_
      refine x_icmp_ne (tgt := 34) dX12_places_26 (by decide) (fun c20 => ?_) (fun c20 => ?_)
      · replace H := ite_m H c20
        refine x_iconst (v := 0) dX12_places_34 (by decide) ?_
        refine x_istore_n (lv' := [(3, .int 0), (0, .ref x0), (1, .int x1), (2, .int x2)]) dX12_places_35 rfl (by decide) rfl rfl ?_
        refine x_iconst (v := 0) dX12_places_36 (by decide) ?_
        refine x_istore (lv' := [(4, .int 0), (3, .int 0), (0, .ref x0), (1, .int x1), (2, .int x2)]) dX12_places_37 (by decide) rfl rfl ?_
        refine Ex.sub [2, 4, 1, 0] rfl ?_
        exact t_X12_places_39 hd FU H
      · replace H := ite_p H c20
        refine x_aload_n dX12_places_29 rfl 0 rfl ?_
        obtain ⟨c21, H⟩ := ko_o H
        refine x_getI fr_X12_516 dX12_places_30 c21 rfl ?_
        obtain ⟨rfl, rfl⟩ := so_1 H
        exact x_iret dX12_places_33 rfl rfl
    · replace H := ite_m H c16
      refine Ex.sub [] rfl ?_
      exact t_X12_places_14 hd H
def f_X12_tells_19 (h : aH) : Option (Int32 × aH) :=
  some ((-1), h)
set_option maxRecDepth 100000 in
set_option maxHeartbeats 4000000 in
theorem t_X12_tells_19 {Γ : gS} {d : Nat} (hd : 8 ≤ d) {h : aH} {r : Int32} {h' : aH} (H : f_X12_tells_19 h = some (r, h')) : Ex Γ gX12_tells d 19 [] [] h (some (.int r)) h' := by
  unfold f_X12_tells_19 at H
  obtain ⟨d, rfl⟩ : ∃ e, d = e + 1 := ⟨d - 1, by omega⟩
  refine x_iconst (v := (-1)) dX12_tells_19 (by decide) ?_
  obtain ⟨rfl, rfl⟩ := so_1 H
  exact x_iret dX12_tells_20 rfl rfl
def f_X12_tells_94 (k38 : Nat → Int32 → Int32 → Int32 → Int32 → Int32 → aH → Option (Int32 × aH)) (k58 : Nat → Int32 → Int32 → Int32 → Int32 → Int32 → Int32 → Int32 → aH → Option (Int32 × aH)) (x0 : Nat) (x1 : Int32) (x2 : Int32) (x3 : Int32) (x4 : Int32) (x5 : Int32) (x6 : Int32) (x7 : Int32) (h : aH) : Option (Int32 × aH) :=
  nm (x7 + 1) fun (v1 : Int32) =>
  k58 x0 x1 x2 x3 x4 x5 x6 v1 h
set_option maxRecDepth 100000 in
set_option maxHeartbeats 4000000 in
theorem t_X12_tells_94 {Γ : gS} {d : Nat} (hd : 8 ≤ d) {k38 : Nat → Int32 → Int32 → Int32 → Int32 → Int32 → aH → Option (Int32 × aH)} (hk38 : ∀ {x0 : Nat} {x1 : Int32} {x2 : Int32} {x3 : Int32} {x4 : Int32} {x5 : Int32} {h : aH} {r : Int32} {h' : aH}, k38 x0 x1 x2 x3 x4 x5 h = some (r, h') → Ex Γ gX12_tells d 38 [(0, .ref x0), (1, .int x1), (2, .int x2), (3, .int x3), (4, .int x4), (5, .int x5)] [] h (some (.int r)) h') {k58 : Nat → Int32 → Int32 → Int32 → Int32 → Int32 → Int32 → Int32 → aH → Option (Int32 × aH)} (hk58 : ∀ {x0 : Nat} {x1 : Int32} {x2 : Int32} {x3 : Int32} {x4 : Int32} {x5 : Int32} {x6 : Int32} {x7 : Int32} {h : aH} {r : Int32} {h' : aH}, k58 x0 x1 x2 x3 x4 x5 x6 x7 h = some (r, h') → Ex Γ gX12_tells d 58 [(0, .ref x0), (1, .int x1), (2, .int x2), (3, .int x3), (4, .int x4), (5, .int x5), (6, .int x6), (7, .int x7)] [] h (some (.int r)) h') {x0 : Nat} {x1 : Int32} {x2 : Int32} {x3 : Int32} {x4 : Int32} {x5 : Int32} {x6 : Int32} {x7 : Int32} {h : aH} {r : Int32} {h' : aH} (H : f_X12_tells_94 k38 k58 x0 x1 x2 x3 x4 x5 x6 x7 h = some (r, h')) : Ex Γ gX12_tells d 94 [(0, .ref x0), (1, .int x1), (2, .int x2), (3, .int x3), (4, .int x4), (5, .int x5), (6, .int x6), (7, .int x7)] [] h (some (.int r)) h' := by
  unfold f_X12_tells_94 at H
  obtain ⟨d, rfl⟩ : ∃ e, d = e + 1 := ⟨d - 1, by omega⟩
  obtain ⟨v1, ev1, H⟩ := nm_o H
  refine x_iinc (v := v1) (lv' := [(7, .int v1), (0, .ref x0), (1, .int x1), (2, .int x2), (3, .int x3), (4, .int x4), (5, .int x5), (6, .int x6)]) dX12_tells_94 7 rfl (by decide) ev1 rfl ?_
  refine x_goto (tgt := 58) dX12_tells_97 (by decide) ?_
  refine Ex.sub [1, 2, 3, 4, 5, 6, 7, 0] rfl ?_
  exact hk58 H
def f_X12_tells_151 (k38 : Nat → Int32 → Int32 → Int32 → Int32 → Int32 → aH → Option (Int32 × aH)) (x0 : Nat) (x1 : Int32) (x2 : Int32) (x3 : Int32) (x4 : Int32) (x5 : Int32) (h : aH) : Option (Int32 × aH) :=
  nm (x5 + 1) fun (v2 : Int32) =>
  k38 x0 x1 x2 x3 x4 v2 h
set_option maxRecDepth 100000 in
set_option maxHeartbeats 4000000 in
theorem t_X12_tells_151 {Γ : gS} {d : Nat} (hd : 8 ≤ d) {k38 : Nat → Int32 → Int32 → Int32 → Int32 → Int32 → aH → Option (Int32 × aH)} (hk38 : ∀ {x0 : Nat} {x1 : Int32} {x2 : Int32} {x3 : Int32} {x4 : Int32} {x5 : Int32} {h : aH} {r : Int32} {h' : aH}, k38 x0 x1 x2 x3 x4 x5 h = some (r, h') → Ex Γ gX12_tells d 38 [(0, .ref x0), (1, .int x1), (2, .int x2), (3, .int x3), (4, .int x4), (5, .int x5)] [] h (some (.int r)) h') {x0 : Nat} {x1 : Int32} {x2 : Int32} {x3 : Int32} {x4 : Int32} {x5 : Int32} {h : aH} {r : Int32} {h' : aH} (H : f_X12_tells_151 k38 x0 x1 x2 x3 x4 x5 h = some (r, h')) : Ex Γ gX12_tells d 151 [(0, .ref x0), (1, .int x1), (2, .int x2), (3, .int x3), (4, .int x4), (5, .int x5)] [] h (some (.int r)) h' := by
  unfold f_X12_tells_151 at H
  obtain ⟨d, rfl⟩ : ∃ e, d = e + 1 := ⟨d - 1, by omega⟩
  obtain ⟨v2, ev2, H⟩ := nm_o H
  refine x_iinc (v := v2) (lv' := [(5, .int v2), (0, .ref x0), (1, .int x1), (2, .int x2), (3, .int x3), (4, .int x4)]) dX12_tells_151 5 rfl (by decide) ev2 rfl ?_
  refine x_goto (tgt := 38) dX12_tells_154 (by decide) ?_
  refine Ex.sub [1, 2, 3, 4, 5, 0] rfl ?_
  exact hk38 H
def f_X12_tells_141 (k38 : Nat → Int32 → Int32 → Int32 → Int32 → Int32 → aH → Option (Int32 × aH)) (x0 : Nat) (x1 : Int32) (x2 : Int32) (x5 : Int32) (x7 : Int32) (h : aH) : Option (Int32 × aH) :=
  nm (x5 + 64) fun (v3 : Int32) =>
  f_X12_tells_151 k38 x0 x1 x2 v3 x7 x5 h
set_option maxRecDepth 100000 in
set_option maxHeartbeats 4000000 in
theorem t_X12_tells_141 {Γ : gS} {d : Nat} (hd : 8 ≤ d) {k38 : Nat → Int32 → Int32 → Int32 → Int32 → Int32 → aH → Option (Int32 × aH)} (hk38 : ∀ {x0 : Nat} {x1 : Int32} {x2 : Int32} {x3 : Int32} {x4 : Int32} {x5 : Int32} {h : aH} {r : Int32} {h' : aH}, k38 x0 x1 x2 x3 x4 x5 h = some (r, h') → Ex Γ gX12_tells d 38 [(0, .ref x0), (1, .int x1), (2, .int x2), (3, .int x3), (4, .int x4), (5, .int x5)] [] h (some (.int r)) h') {x0 : Nat} {x1 : Int32} {x2 : Int32} {x5 : Int32} {x7 : Int32} {h : aH} {r : Int32} {h' : aH} (H : f_X12_tells_141 k38 x0 x1 x2 x5 x7 h = some (r, h')) : Ex Γ gX12_tells d 141 [(0, .ref x0), (1, .int x1), (2, .int x2), (5, .int x5), (7, .int x7)] [] h (some (.int r)) h' := by
  unfold f_X12_tells_141 at H
  obtain ⟨d, rfl⟩ : ∃ e, d = e + 1 := ⟨d - 1, by omega⟩
  refine x_iload dX12_tells_141 3 rfl ?_
  refine x_bipush (v := 64) dX12_tells_143 (by decide) ?_
  refine x_iadd dX12_tells_145 ?_
  obtain ⟨v3, ev3, H⟩ := nm_o H
  refine x_istore_n (lv' := [(3, .int v3), (0, .ref x0), (1, .int x1), (2, .int x2), (5, .int x5), (7, .int x7)]) dX12_tells_146 rfl (by decide) ev3 rfl ?_
  refine x_iload dX12_tells_147 5 rfl ?_
  refine x_istore (lv' := [(4, .int x7), (3, .int v3), (0, .ref x0), (1, .int x1), (2, .int x2), (5, .int x5), (7, .int x7)]) dX12_tells_149 (by decide) rfl rfl ?_
  refine Ex.sub [2, 3, 4, 1, 0, 5] rfl ?_
  exact t_X12_tells_151 hd hk38 H
def f_X12_tells_124 (k38 : Nat → Int32 → Int32 → Int32 → Int32 → Int32 → aH → Option (Int32 × aH)) (x0 : Nat) (x1 : Int32) (x2 : Int32) (x3 : Int32) (x4 : Int32) (x5 : Int32) (s0 : Int32) (h : aH) : Option (Int32 × aH) :=
  if x3 = (-1) then
    f_X12_tells_141 k38 x0 x1 x2 x5 s0 h
  else
    if s0 < x4 then
      f_X12_tells_141 k38 x0 x1 x2 x5 s0 h
    else
      f_X12_tells_151 k38 x0 x1 x2 x3 x4 x5 h
set_option maxRecDepth 100000 in
set_option maxHeartbeats 4000000 in
theorem t_X12_tells_124 {Γ : gS} {d : Nat} (hd : 8 ≤ d) {k38 : Nat → Int32 → Int32 → Int32 → Int32 → Int32 → aH → Option (Int32 × aH)} (hk38 : ∀ {x0 : Nat} {x1 : Int32} {x2 : Int32} {x3 : Int32} {x4 : Int32} {x5 : Int32} {h : aH} {r : Int32} {h' : aH}, k38 x0 x1 x2 x3 x4 x5 h = some (r, h') → Ex Γ gX12_tells d 38 [(0, .ref x0), (1, .int x1), (2, .int x2), (3, .int x3), (4, .int x4), (5, .int x5)] [] h (some (.int r)) h') {x0 : Nat} {x1 : Int32} {x2 : Int32} {x3 : Int32} {x4 : Int32} {x5 : Int32} {s0 : Int32} {h : aH} {r : Int32} {h' : aH} (H : f_X12_tells_124 k38 x0 x1 x2 x3 x4 x5 s0 h = some (r, h')) : Ex Γ gX12_tells d 124 [(0, .ref x0), (1, .int x1), (2, .int x2), (3, .int x3), (4, .int x4), (5, .int x5)] [.int s0] h (some (.int r)) h' := by
  unfold f_X12_tells_124 at H
  obtain ⟨d, rfl⟩ : ∃ e, d = e + 1 := ⟨d - 1, by omega⟩
  refine x_istore (lv' := [(7, .int s0), (0, .ref x0), (1, .int x1), (2, .int x2), (3, .int x3), (4, .int x4), (5, .int x5)]) dX12_tells_124 (by decide) rfl rfl ?_
  refine x_iload_n dX12_tells_126 rfl 4 rfl ?_
  refine x_iconst (v := (-1)) dX12_tells_127 (by decide) ?_
  refine x_icmp_eq (tgt := 141) dX12_tells_128 (by decide) (fun c4 => ?_) (fun c4 => ?_)
  · replace H := ite_p H c4
    refine Ex.sub [1, 2, 3, 6, 0] rfl ?_
    exact t_X12_tells_141 hd hk38 H
  · replace H := ite_m H c4
    refine x_iload dX12_tells_131 0 rfl ?_
    refine x_iload dX12_tells_133 5 rfl ?_
    refine x_icmp_lt (tgt := 141) dX12_tells_135 (by decide) (fun c5 => ?_) (fun c5 => ?_)
    · replace H := ite_p H c5
      refine Ex.sub [1, 2, 3, 6, 0] rfl ?_
      exact t_X12_tells_141 hd hk38 H
    · replace H := ite_m H c5
      refine x_goto (tgt := 151) dX12_tells_138 (by decide) ?_
      refine Ex.sub [1, 2, 3, 4, 5, 6] rfl ?_
      exact t_X12_tells_151 hd hk38 H
def b_X12_tells_58 (k38 : Nat → Int32 → Int32 → Int32 → Int32 → Int32 → aH → Option (Int32 × aH)) (k58 : Nat → Int32 → Int32 → Int32 → Int32 → Int32 → Int32 → Int32 → aH → Option (Int32 × aH)) (x0 : Nat) (x1 : Int32) (x2 : Int32) (x3 : Int32) (x4 : Int32) (x5 : Int32) (x6 : Int32) (x7 : Int32) (h : aH) : Option (Int32 × aH) :=
  if 4096 ≤ x7 then
    ko h x0 11 <|
    if ((hI h x0 61) - x6) ≤ x6 then
      f_X12_tells_124 k38 x0 x1 x2 x3 x4 x5 x6 h
    else
      f_X12_tells_124 k38 x0 x1 x2 x3 x4 x5 ((hI h x0 61) - x6) h
  else
    ko h x0 11 <|
    kr (hR h x0 60) fun a10 =>
    ka h a10 .boolean fun n13 =>
    chk (inb x7 n13 = true) <|
    if (hI h a10 x7.toNatClampNeg) = 0 then
      f_X12_tells_94 k38 k58 x0 x1 x2 x3 x4 x5 x6 x7 h
    else
      bd (f_X12_fitsFrom x0 (8 * x1) x7 x5 h) fun v16 h17 =>
      if v16 = 0 then
        f_X12_tells_94 k38 k58 x0 x1 x2 x3 x4 x5 x6 x7 h17
      else
        nm (x6 + 1) fun (v20 : Int32) =>
        f_X12_tells_94 k38 k58 x0 x1 x2 x3 x4 x5 v20 x7 h17
set_option maxRecDepth 100000 in
set_option maxHeartbeats 4000000 in
theorem tb_X12_tells_58 {Γ : gS} {d : Nat} (hd : 8 ≤ d) {k38 : Nat → Int32 → Int32 → Int32 → Int32 → Int32 → aH → Option (Int32 × aH)} (hk38 : ∀ {x0 : Nat} {x1 : Int32} {x2 : Int32} {x3 : Int32} {x4 : Int32} {x5 : Int32} {h : aH} {r : Int32} {h' : aH}, k38 x0 x1 x2 x3 x4 x5 h = some (r, h') → Ex Γ gX12_tells d 38 [(0, .ref x0), (1, .int x1), (2, .int x2), (3, .int x3), (4, .int x4), (5, .int x5)] [] h (some (.int r)) h') {k58 : Nat → Int32 → Int32 → Int32 → Int32 → Int32 → Int32 → Int32 → aH → Option (Int32 × aH)} (hk58 : ∀ {x0 : Nat} {x1 : Int32} {x2 : Int32} {x3 : Int32} {x4 : Int32} {x5 : Int32} {x6 : Int32} {x7 : Int32} {h : aH} {r : Int32} {h' : aH}, k58 x0 x1 x2 x3 x4 x5 x6 x7 h = some (r, h') → Ex Γ gX12_tells d 58 [(0, .ref x0), (1, .int x1), (2, .int x2), (3, .int x3), (4, .int x4), (5, .int x5), (6, .int x6), (7, .int x7)] [] h (some (.int r)) h') {x0 : Nat} {x1 : Int32} {x2 : Int32} {x3 : Int32} {x4 : Int32} {x5 : Int32} {x6 : Int32} {x7 : Int32} {h : aH} {r : Int32} {h' : aH} (H : b_X12_tells_58 k38 k58 x0 x1 x2 x3 x4 x5 x6 x7 h = some (r, h')) : Ex Γ gX12_tells d 58 [(0, .ref x0), (1, .int x1), (2, .int x2), (3, .int x3), (4, .int x4), (5, .int x5), (6, .int x6), (7, .int x7)] [] h (some (.int r)) h' := by
  unfold b_X12_tells_58 at H
  obtain ⟨d, rfl⟩ : ∃ e, d = e + 1 := ⟨d - 1, by omega⟩
  refine x_iload dX12_tells_58 7 rfl ?_
  refine x_sipush (v := 4096) dX12_tells_60 (by decide) ?_
  refine x_icmp_ge (tgt := 100) dX12_tells_63 (by decide) (fun c6 => ?_) (fun c6 => ?_)
  · replace H := ite_p H c6
    refine x_iload dX12_tells_100 6 rfl ?_
    refine x_aload_n dX12_tells_102 rfl 0 rfl ?_
    obtain ⟨c7, H⟩ := ko_o H
    refine x_getI fr_X12_516 dX12_tells_103 c7 rfl ?_
    refine x_iload dX12_tells_106 6 rfl ?_
    refine x_isub dX12_tells_108 ?_
    refine x_icmp_ge (tgt := 122) dX12_tells_109 (by decide) (fun c8 => ?_) (fun c8 => ?_)
    · replace H := ite_p H c8
      refine x_iload dX12_tells_122 6 rfl ?_
      refine Ex.sub [0, 1, 2, 3, 4, 5] rfl ?_
      exact t_X12_tells_124 hd hk38 H
    · replace H := ite_m H c8
      refine x_aload_n dX12_tells_112 rfl 0 rfl ?_
      refine x_getI fr_X12_516 dX12_tells_113 c7 rfl ?_
      refine x_iload dX12_tells_116 6 rfl ?_
      refine x_isub dX12_tells_118 ?_
      refine x_goto (tgt := 124) dX12_tells_119 (by decide) ?_
      refine Ex.sub [0, 1, 2, 3, 4, 5] rfl ?_
      exact t_X12_tells_124 hd hk38 H
  · replace H := ite_m H c6
    refine x_aload_n dX12_tells_66 rfl 0 rfl ?_
    obtain ⟨c9, H⟩ := ko_o H
    obtain ⟨a10, c11, H⟩ := kr_o H
    refine x_getR fr_X12_124 dX12_tells_67 c9 rfl c11 ?_
    refine x_iload dX12_tells_70 7 rfl ?_
    obtain ⟨n13, c12, H⟩ := ka_o H
    obtain ⟨c14, H⟩ := chk_o H
    refine x_zald dX12_tells_72 c12 (inb_in.mp c14) ?_
    refine x_if_eq (tgt := 94) dX12_tells_73 (by decide) (fun c15 => ?_) (fun c15 => ?_)
    · replace H := ite_p H c15
      exact t_X12_tells_94 hd hk38 hk58 H
    · replace H := ite_m H c15
      refine x_aload_n dX12_tells_76 rfl 0 rfl ?_
      refine x_bipush (v := 8) dX12_tells_77 (by decide) ?_
      refine x_iload_n dX12_tells_79 rfl 1 rfl ?_
      refine x_imul dX12_tells_80 ?_
      refine x_iload dX12_tells_81 7 rfl ?_
      refine x_iload dX12_tells_83 5 rfl ?_
      obtain ⟨v16, h17, hc18, H⟩ := bd_o H
      refine x_callVi (As := [.int (8 * x1), .int x7, .int x5]) (q := (RX12, TX12, 103)) dX12_tells_85 mi_X12_fitsFrom lk_X12_512 im_X12_fitsFrom se_X12_fitsFrom rfl c9 rfl rfl (Nat.le_of_ble_eq_true rfl) (t_X12_fitsFrom (by omega) hc18) ?_
      refine x_if_eq (tgt := 94) dX12_tells_88 (by decide) (fun c19 => ?_) (fun c19 => ?_)
      · replace H := ite_p H c19
        exact t_X12_tells_94 hd hk38 hk58 H
      · replace H := ite_m H c19
        obtain ⟨v20, ev20, H⟩ := nm_o H
        refine x_iinc (v := v20) (lv' := [(6, .int v20), (0, .ref x0), (1, .int x1), (2, .int x2), (3, .int x3), (4, .int x4), (5, .int x5), (7, .int x7)]) dX12_tells_91 6 rfl (by decide) ev20 rfl ?_
        refine Ex.sub [1, 2, 3, 4, 5, 6, 0, 7] rfl ?_
        exact t_X12_tells_94 hd hk38 hk58 H
def f_X12_tells_58 (k38 : Nat → Int32 → Int32 → Int32 → Int32 → Int32 → aH → Option (Int32 × aH)) : Nat → Nat → Int32 → Int32 → Int32 → Int32 → Int32 → Int32 → Int32 → aH → Option (Int32 × aH)
  | 0 => fun _ _ _ _ _ _ _ _ _ => none
  | n + 1 => b_X12_tells_58 k38 (f_X12_tells_58 k38 n)
set_option maxRecDepth 100000 in
set_option maxHeartbeats 4000000 in
theorem t_X12_tells_58 {Γ : gS} {d : Nat} (hd : 8 ≤ d) {k38 : Nat → Int32 → Int32 → Int32 → Int32 → Int32 → aH → Option (Int32 × aH)} (hk38 : ∀ {x0 : Nat} {x1 : Int32} {x2 : Int32} {x3 : Int32} {x4 : Int32} {x5 : Int32} {h : aH} {r : Int32} {h' : aH}, k38 x0 x1 x2 x3 x4 x5 h = some (r, h') → Ex Γ gX12_tells d 38 [(0, .ref x0), (1, .int x1), (2, .int x2), (3, .int x3), (4, .int x4), (5, .int x5)] [] h (some (.int r)) h') (n : Nat) : ∀ {x0 : Nat} {x1 : Int32} {x2 : Int32} {x3 : Int32} {x4 : Int32} {x5 : Int32} {x6 : Int32} {x7 : Int32} {h : aH} {r : Int32} {h' : aH}, f_X12_tells_58 k38 n x0 x1 x2 x3 x4 x5 x6 x7 h = some (r, h') → Ex Γ gX12_tells d 58 [(0, .ref x0), (1, .int x1), (2, .int x2), (3, .int x3), (4, .int x4), (5, .int x5), (6, .int x6), (7, .int x7)] [] h (some (.int r)) h' := by
  induction n with
  | zero => intro x0 x1 x2 x3 x4 x5 x6 x7 h r h' H; cases H
  | succ n ih => intro x0 x1 x2 x3 x4 x5 x6 x7 h r h' H; exact tb_X12_tells_58 hd hk38 ih H
def f_X12_tells_176 (s0 : Int32) (h : aH) : Option (Int32 × aH) :=
  some (s0, h)
set_option maxRecDepth 100000 in
set_option maxHeartbeats 4000000 in
theorem t_X12_tells_176 {Γ : gS} {d : Nat} (hd : 8 ≤ d) {s0 : Int32} {h : aH} {r : Int32} {h' : aH} (H : f_X12_tells_176 s0 h = some (r, h')) : Ex Γ gX12_tells d 176 [] [.int s0] h (some (.int r)) h' := by
  unfold f_X12_tells_176 at H
  obtain ⟨d, rfl⟩ : ∃ e, d = e + 1 := ⟨d - 1, by omega⟩
  obtain ⟨rfl, rfl⟩ := so_1 H
  exact x_iret dX12_tells_176 rfl rfl
def f_X12_tells_157 (x2 : Int32) (x3 : Int32) (x4 : Int32) (h : aH) : Option (Int32 × aH) :=
  if x3 = (-1) then
    f_X12_tells_176 (-1) h
  else
    if x2 = 0 then
      f_X12_tells_176 x3 h
    else
      f_X12_tells_176 x4 h
set_option maxRecDepth 100000 in
set_option maxHeartbeats 4000000 in
theorem t_X12_tells_157 {Γ : gS} {d : Nat} (hd : 8 ≤ d) {x2 : Int32} {x3 : Int32} {x4 : Int32} {h : aH} {r : Int32} {h' : aH} (H : f_X12_tells_157 x2 x3 x4 h = some (r, h')) : Ex Γ gX12_tells d 157 [(2, .int x2), (3, .int x3), (4, .int x4)] [] h (some (.int r)) h' := by
  unfold f_X12_tells_157 at H
  obtain ⟨d, rfl⟩ : ∃ e, d = e + 1 := ⟨d - 1, by omega⟩
  refine x_iload_n dX12_tells_157 rfl 1 rfl ?_
  refine x_iconst (v := (-1)) dX12_tells_158 (by decide) ?_
  refine x_icmp_ne (tgt := 166) dX12_tells_159 (by decide) (fun c21 => ?_) (fun c21 => ?_)
  · replace H := ite_m H c21
    refine x_iload_n dX12_tells_166 rfl 0 rfl ?_
    refine x_if_ne (tgt := 174) dX12_tells_167 (by decide) (fun c22 => ?_) (fun c22 => ?_)
    · replace H := ite_m H c22
      refine x_iload dX12_tells_174 2 rfl ?_
      refine Ex.sub [] rfl ?_
      exact t_X12_tells_176 hd H
    · replace H := ite_p H c22
      refine x_iload_n dX12_tells_170 rfl 1 rfl ?_
      refine x_goto (tgt := 176) dX12_tells_171 (by decide) ?_
      refine Ex.sub [] rfl ?_
      exact t_X12_tells_176 hd H
  · replace H := ite_p H c21
    refine x_iconst (v := (-1)) dX12_tells_162 (by decide) ?_
    refine x_goto (tgt := 176) dX12_tells_163 (by decide) ?_
    refine Ex.sub [] rfl ?_
    exact t_X12_tells_176 hd H
def b_X12_tells_38 (k38 : Nat → Int32 → Int32 → Int32 → Int32 → Int32 → aH → Option (Int32 × aH)) (x0 : Nat) (x1 : Int32) (x2 : Int32) (x3 : Int32) (x4 : Int32) (x5 : Int32) (h : aH) : Option (Int32 × aH) :=
  if 64 ≤ x5 then
    f_X12_tells_157 x2 x3 x4 h
  else
    ko h x0 11 <|
    if (hI h x0 61) ≤ 0 then
      f_X12_tells_157 x2 x3 x4 h
    else
      f_X12_tells_58 k38 FU x0 x1 x2 x3 x4 x5 0 0 h
set_option maxRecDepth 100000 in
set_option maxHeartbeats 4000000 in
theorem tb_X12_tells_38 {Γ : gS} {d : Nat} (hd : 8 ≤ d) {k38 : Nat → Int32 → Int32 → Int32 → Int32 → Int32 → aH → Option (Int32 × aH)} (hk38 : ∀ {x0 : Nat} {x1 : Int32} {x2 : Int32} {x3 : Int32} {x4 : Int32} {x5 : Int32} {h : aH} {r : Int32} {h' : aH}, k38 x0 x1 x2 x3 x4 x5 h = some (r, h') → Ex Γ gX12_tells d 38 [(0, .ref x0), (1, .int x1), (2, .int x2), (3, .int x3), (4, .int x4), (5, .int x5)] [] h (some (.int r)) h') {x0 : Nat} {x1 : Int32} {x2 : Int32} {x3 : Int32} {x4 : Int32} {x5 : Int32} {h : aH} {r : Int32} {h' : aH} (H : b_X12_tells_38 k38 x0 x1 x2 x3 x4 x5 h = some (r, h')) : Ex Γ gX12_tells d 38 [(0, .ref x0), (1, .int x1), (2, .int x2), (3, .int x3), (4, .int x4), (5, .int x5)] [] h (some (.int r)) h' := by
  unfold b_X12_tells_38 at H
  obtain ⟨d, rfl⟩ : ∃ e, d = e + 1 := ⟨d - 1, by omega⟩
  refine x_iload dX12_tells_38 5 rfl ?_
  refine x_bipush (v := 64) dX12_tells_40 (by decide) ?_
  refine x_icmp_ge (tgt := 157) dX12_tells_42 (by decide) (fun c23 => ?_) (fun c23 => ?_)
  · replace H := ite_p H c23
    refine Ex.sub [2, 3, 4] rfl ?_
    exact t_X12_tells_157 hd H
  · replace H := ite_m H c23
    refine x_aload_n dX12_tells_45 rfl 0 rfl ?_
    obtain ⟨c24, H⟩ := ko_o H
    refine x_getI fr_X12_516 dX12_tells_46 c24 rfl ?_
    refine x_if_le (tgt := 157) dX12_tells_49 (by decide) (fun c25 => ?_) (fun c25 => ?_)
    · replace H := ite_p H c25
      refine Ex.sub [2, 3, 4] rfl ?_
      exact t_X12_tells_157 hd H
    · replace H := ite_m H c25
      refine x_iconst (v := 0) dX12_tells_52 (by decide) ?_
      refine x_istore (lv' := [(6, .int 0), (0, .ref x0), (1, .int x1), (2, .int x2), (3, .int x3), (4, .int x4), (5, .int x5)]) dX12_tells_53 (by decide) rfl rfl ?_
      refine x_iconst (v := 0) dX12_tells_55 (by decide) ?_
      refine x_istore (lv' := [(7, .int 0), (6, .int 0), (0, .ref x0), (1, .int x1), (2, .int x2), (3, .int x3), (4, .int x4), (5, .int x5)]) dX12_tells_56 (by decide) rfl rfl ?_
      refine Ex.sub [2, 3, 4, 5, 6, 7, 1, 0] rfl ?_
      exact t_X12_tells_58 hd hk38 FU H
def f_X12_tells_38 : Nat → Nat → Int32 → Int32 → Int32 → Int32 → Int32 → aH → Option (Int32 × aH)
  | 0 => fun _ _ _ _ _ _ _ => none
  | n + 1 => b_X12_tells_38 (f_X12_tells_38 n)
set_option maxRecDepth 100000 in
set_option maxHeartbeats 4000000 in
theorem t_X12_tells_38 {Γ : gS} {d : Nat} (hd : 8 ≤ d) (n : Nat) : ∀ {x0 : Nat} {x1 : Int32} {x2 : Int32} {x3 : Int32} {x4 : Int32} {x5 : Int32} {h : aH} {r : Int32} {h' : aH}, f_X12_tells_38 n x0 x1 x2 x3 x4 x5 h = some (r, h') → Ex Γ gX12_tells d 38 [(0, .ref x0), (1, .int x1), (2, .int x2), (3, .int x3), (4, .int x4), (5, .int x5)] [] h (some (.int r)) h' := by
  induction n with
  | zero => intro x0 x1 x2 x3 x4 x5 h r h' H; cases H
  | succ n ih => intro x0 x1 x2 x3 x4 x5 h r h' H; exact tb_X12_tells_38 hd ih H
def f_X12_tells (x0 : Nat) (x1 : Int32) (x2 : Int32) (h : aH) : Option (Int32 × aH) :=
  ko h x0 11 <|
  bd (f_X12_isPointer x0 x1.toInt64 h) fun v26 h27 =>
  if v26 = 0 then
    f_X12_tells_19 h27
  else
    bd (f_X12_isIn x2.toInt64 0 1 h27) fun v30 h31 =>
    if v30 = 0 then
      f_X12_tells_19 h31
    else
      ko h31 x0 11 <|
      bd (f_X12_laysPlaces x0 (8 * x1) h31) fun _ h35 =>
      f_X12_tells_38 FU x0 x1 x2 (-1) 0 (-64) h35
set_option maxRecDepth 100000 in
set_option maxHeartbeats 4000000 in
theorem t_X12_tells {Γ : gS} {d : Nat} (hd : 8 ≤ d) {x0 : Nat} {x1 : Int32} {x2 : Int32} {h : aH} {r : Int32} {h' : aH} (H : f_X12_tells x0 x1 x2 h = some (r, h')) : Mx Γ gX12_tells d [.ref x0, .int x1, .int x2] h (some (.int r)) h' := by
  refine Mx.of (by decide +kernel) (Nat.le_of_ble_eq_true rfl) ?_
  unfold f_X12_tells at H
  show Ex Γ gX12_tells d 0 [(0, .ref x0), (1, .int x1), (2, .int x2)] [] h (some (.int r)) h'
  obtain ⟨d, rfl⟩ : ∃ e, d = e + 1 := ⟨d - 1, by omega⟩
  refine x_aload_n dX12_tells_0 rfl 0 rfl ?_
  refine x_iload_n dX12_tells_1 rfl 1 rfl ?_
  refine x_i2l dX12_tells_2 ?_
  obtain ⟨c38, H⟩ := ko_o H
  obtain ⟨v26, h27, hc28, H⟩ := bd_o H
  refine x_callVi (As := [.long x1.toInt64]) (q := (RX12, TX12, 103)) dX12_tells_3 mi_X12_isPointer lk_X12_418 im_X12_isPointer se_X12_isPointer rfl c38 rfl rfl (Nat.le_of_ble_eq_true rfl) (t_X12_isPointer (by omega) hc28) ?_
  refine x_if_eq (tgt := 19) dX12_tells_6 (by decide) (fun c29 => ?_) (fun c29 => ?_)
  · replace H := ite_p H c29
    refine Ex.sub [] rfl ?_
    exact t_X12_tells_19 hd H
  · replace H := ite_m H c29
    refine x_iload_n dX12_tells_9 rfl 2 rfl ?_
    refine x_i2l dX12_tells_10 ?_
    refine x_lconst (v := 0) dX12_tells_11 (by decide) ?_
    refine x_lconst (v := 1) dX12_tells_12 (by decide) ?_
    obtain ⟨v30, h31, hc32, H⟩ := bd_o H
    refine x_callSi (As := [.long x2.toInt64, .long 0, .long 1]) dX12_tells_13 mi_X12_isIn lk_X12_268 sm_X12_isIn rfl rfl (Nat.le_of_ble_eq_true rfl) (t_X12_isIn (by omega) hc32) ?_
    refine x_if_ne (tgt := 21) dX12_tells_16 (by decide) (fun c33 => ?_) (fun c33 => ?_)
    · replace H := ite_m H c33
      refine x_aload_n dX12_tells_21 rfl 0 rfl ?_
      refine x_bipush (v := 8) dX12_tells_22 (by decide) ?_
      refine x_iload_n dX12_tells_24 rfl 1 rfl ?_
      refine x_imul dX12_tells_25 ?_
      obtain ⟨c37, H⟩ := ko_o H
      obtain ⟨v34, h35, hc36, H⟩ := bd_o H
      refine x_callVv (As := [.int (8 * x1)]) (q := (RX12, TX12, 103)) dX12_tells_26 mi_X12_laysPlaces lk_X12_522 im_X12_laysPlaces se_X12_laysPlaces rfl c37 rfl rfl (Nat.le_of_ble_eq_true rfl) (t_X12_laysPlaces (by omega) hc36) ?_
      refine x_iconst (v := (-1)) dX12_tells_29 (by decide) ?_
      refine x_istore_n (lv' := [(3, .int (-1)), (0, .ref x0), (1, .int x1), (2, .int x2)]) dX12_tells_30 rfl (by decide) rfl rfl ?_
      refine x_iconst (v := 0) dX12_tells_31 (by decide) ?_
      refine x_istore (lv' := [(4, .int 0), (3, .int (-1)), (0, .ref x0), (1, .int x1), (2, .int x2)]) dX12_tells_32 (by decide) rfl rfl ?_
      refine x_bipush (v := (-64)) dX12_tells_34 (by decide) ?_
      refine x_istore (lv' := [(5, .int (-64)), (4, .int 0), (3, .int (-1)), (0, .ref x0), (1, .int x1), (2, .int x2)]) dX12_tells_36 (by decide) rfl rfl ?_
      refine Ex.sub [3, 4, 5, 2, 1, 0] rfl ?_
      exact t_X12_tells_38 hd FU H
    · replace H := ite_p H c33
      refine Ex.sub [] rfl ?_
      exact t_X12_tells_19 hd H
def f_X12_keeps_68 (h : aH) : Option (Unit × aH) :=
  some ((), h)
set_option maxRecDepth 100000 in
set_option maxHeartbeats 4000000 in
theorem t_X12_keeps_68 {Γ : gS} {d : Nat} (hd : 0 ≤ d) {h : aH} {r : Unit} {h' : aH} (H : f_X12_keeps_68 h = some (r, h')) : Ex Γ gX12_keeps d 68 [] [] h none h' := by
  unfold f_X12_keeps_68 at H
  obtain ⟨-, rfl⟩ := so_1 H
  exact x_vret dX12_keeps_68 rfl
def b_X12_keeps_15 (k15 : Nat → Int32 → aH → Option (Unit × aH)) (x0 : Nat) (x1 : Int32) (h : aH) : Option (Unit × aH) :=
  if 1498 ≤ x1 then
    ko h x0 11 <|
    if 20 ≤ (hI h x0 63) then
      f_X12_keeps_68 h
    else
      f_X12_keeps_68 (sI h x0 63 ((hI h x0 63) + 1))
  else
    ko h x0 11 <|
    kr (hR h x0 62) fun a5 =>
    kr (hR h x0 47) fun a7 =>
    ka h a7 .int fun n10 =>
    chk (inb x1 n10 = true) <|
    ka h a5 .int fun n13 =>
    chk (inb ((1498 * (hI h x0 64)) + x1) n13 = true) <|
    nm (x1 + 1) fun (v15 : Int32) =>
    k15 x0 v15 (sI h a5 ((1498 * (hI h x0 64)) + x1 : Int32).toNatClampNeg (hI h a7 x1.toNatClampNeg))
set_option maxRecDepth 100000 in
set_option maxHeartbeats 4000000 in
theorem tb_X12_keeps_15 {Γ : gS} {d : Nat} (hd : 0 ≤ d) {k15 : Nat → Int32 → aH → Option (Unit × aH)} (hk15 : ∀ {x0 : Nat} {x1 : Int32} {h : aH} {r : Unit} {h' : aH}, k15 x0 x1 h = some (r, h') → Ex Γ gX12_keeps d 15 [(0, .ref x0), (1, .int x1)] [] h none h') {x0 : Nat} {x1 : Int32} {h : aH} {r : Unit} {h' : aH} (H : b_X12_keeps_15 k15 x0 x1 h = some (r, h')) : Ex Γ gX12_keeps d 15 [(0, .ref x0), (1, .int x1)] [] h none h' := by
  unfold b_X12_keeps_15 at H
  refine x_iload_n dX12_keeps_15 rfl 1 rfl ?_
  refine x_sipush (v := 1498) dX12_keeps_16 (by decide) ?_
  refine x_icmp_ge (tgt := 49) dX12_keeps_19 (by decide) (fun c1 => ?_) (fun c1 => ?_)
  · replace H := ite_p H c1
    refine x_aload_n dX12_keeps_49 rfl 0 rfl ?_
    obtain ⟨c2, H⟩ := ko_o H
    refine x_getI fr_X12_362 dX12_keeps_50 c2 rfl ?_
    refine x_bipush (v := 20) dX12_keeps_53 (by decide) ?_
    refine x_icmp_ge (tgt := 68) dX12_keeps_55 (by decide) (fun c3 => ?_) (fun c3 => ?_)
    · replace H := ite_p H c3
      refine Ex.sub [] rfl ?_
      exact t_X12_keeps_68 hd H
    · replace H := ite_m H c3
      refine x_aload_n dX12_keeps_58 rfl 0 rfl ?_
      refine x_dup dX12_keeps_59 rfl ?_
      refine x_getI fr_X12_362 dX12_keeps_60 c2 rfl ?_
      refine x_iconst (v := 1) dX12_keeps_63 (by decide) ?_
      refine x_iadd dX12_keeps_64 ?_
      refine x_putI fl_X12_362 dX12_keeps_65 c2 (fun e => by cases e) rfl ?_
      refine Ex.sub [] rfl ?_
      exact t_X12_keeps_68 hd H
  · replace H := ite_m H c1
    refine x_aload_n dX12_keeps_22 rfl 0 rfl ?_
    obtain ⟨c4, H⟩ := ko_o H
    obtain ⟨a5, c6, H⟩ := kr_o H
    refine x_getR fr_X12_128 dX12_keeps_23 c4 rfl c6 ?_
    refine x_sipush (v := 1498) dX12_keeps_26 (by decide) ?_
    refine x_aload_n dX12_keeps_29 rfl 0 rfl ?_
    refine x_getI fr_X12_525 dX12_keeps_30 c4 rfl ?_
    refine x_imul dX12_keeps_33 ?_
    refine x_iload_n dX12_keeps_34 rfl 1 rfl ?_
    refine x_iadd dX12_keeps_35 ?_
    refine x_aload_n dX12_keeps_36 rfl 0 rfl ?_
    obtain ⟨a7, c8, H⟩ := kr_o H
    refine x_getR fr_X12_115 dX12_keeps_37 c4 rfl c8 ?_
    refine x_iload_n dX12_keeps_40 rfl 1 rfl ?_
    obtain ⟨n10, c9, H⟩ := ka_o H
    obtain ⟨c11, H⟩ := chk_o H
    refine x_iald dX12_keeps_41 c9 (inb_in.mp c11) ?_
    obtain ⟨n13, c12, H⟩ := ka_o H
    obtain ⟨c14, H⟩ := chk_o H
    refine x_iast dX12_keeps_42 c12 (inb_in.mp c14) ?_
    obtain ⟨v15, ev15, H⟩ := nm_o H
    refine x_iinc (v := v15) (lv' := [(1, .int v15), (0, .ref x0)]) dX12_keeps_43 1 rfl (by decide) ev15 rfl ?_
    refine x_goto (tgt := 15) dX12_keeps_46 (by decide) ?_
    refine Ex.sub [1, 0] rfl ?_
    exact hk15 H
def f_X12_keeps_15 : Nat → Nat → Int32 → aH → Option (Unit × aH)
  | 0 => fun _ _ _ => none
  | n + 1 => b_X12_keeps_15 (f_X12_keeps_15 n)
set_option maxRecDepth 100000 in
set_option maxHeartbeats 4000000 in
theorem t_X12_keeps_15 {Γ : gS} {d : Nat} (hd : 0 ≤ d) (n : Nat) : ∀ {x0 : Nat} {x1 : Int32} {h : aH} {r : Unit} {h' : aH}, f_X12_keeps_15 n x0 x1 h = some (r, h') → Ex Γ gX12_keeps d 15 [(0, .ref x0), (1, .int x1)] [] h none h' := by
  induction n with
  | zero => intro x0 x1 h r h' H; cases H
  | succ n ih => intro x0 x1 h r h' H; exact tb_X12_keeps_15 hd ih H
def f_X12_keeps (x0 : Nat) (h : aH) : Option (Unit × aH) :=
  ko h x0 11 <|
  f_X12_keeps_15 FU x0 0 (sI h x0 64 (((hI h x0 64) + 1) - ((hI h x0 64) + 1) / 20 * 20))
set_option maxRecDepth 100000 in
set_option maxHeartbeats 4000000 in
theorem t_X12_keeps {Γ : gS} {d : Nat} (hd : 0 ≤ d) {x0 : Nat} {h : aH} {r : Unit} {h' : aH} (H : f_X12_keeps x0 h = some (r, h')) : Mx Γ gX12_keeps d [.ref x0] h none h' := by
  refine Mx.of (by decide +kernel) (Nat.le_of_ble_eq_true rfl) ?_
  unfold f_X12_keeps at H
  show Ex Γ gX12_keeps d 0 [(0, .ref x0)] [] h none h'
  refine x_aload_n dX12_keeps_0 rfl 0 rfl ?_
  refine x_aload_n dX12_keeps_1 rfl 0 rfl ?_
  obtain ⟨c16, H⟩ := ko_o H
  refine x_getI fr_X12_525 dX12_keeps_2 c16 rfl ?_
  refine x_iconst (v := 1) dX12_keeps_5 (by decide) ?_
  refine x_iadd dX12_keeps_6 ?_
  refine x_bipush (v := 20) dX12_keeps_7 (by decide) ?_
  refine x_irem dX12_keeps_9 (by decide) ?_
  refine x_putI fl_X12_525 dX12_keeps_10 c16 (fun e => by cases e) rfl ?_
  refine x_iconst (v := 0) dX12_keeps_13 (by decide) ?_
  refine x_istore_n (lv' := [(1, .int 0), (0, .ref x0)]) dX12_keeps_14 rfl (by decide) rfl rfl ?_
  refine Ex.sub [1, 0] rfl ?_
  exact t_X12_keeps_15 hd FU H
def b_X12_undo_22 (k22 : Nat → Int32 → aH → Option (Int32 × aH)) (x0 : Nat) (x1 : Int32) (h : aH) : Option (Int32 × aH) :=
  if 1498 ≤ x1 then
    ko h x0 11 <|
    nm (hI (sI h x0 64 ((((hI h x0 64) + 20) - 1) - (((hI h x0 64) + 20) - 1) / 20 * 20)) x0 63) fun (v3 : Int32) =>
    some (1, sI (sI h x0 64 ((((hI h x0 64) + 20) - 1) - (((hI h x0 64) + 20) - 1) / 20 * 20)) x0 63 (v3 - 1))
  else
    ko h x0 11 <|
    kr (hR h x0 47) fun a5 =>
    kr (hR h x0 62) fun a7 =>
    ka h a7 .int fun n10 =>
    chk (inb ((1498 * (hI h x0 64)) + x1) n10 = true) <|
    ka h a5 .int fun n13 =>
    chk (inb x1 n13 = true) <|
    nm (x1 + 1) fun (v15 : Int32) =>
    k22 x0 v15 (sI h a5 x1.toNatClampNeg (hI h a7 ((1498 * (hI h x0 64)) + x1 : Int32).toNatClampNeg))
set_option maxRecDepth 100000 in
set_option maxHeartbeats 4000000 in
theorem tb_X12_undo_22 {Γ : gS} {d : Nat} (hd : 0 ≤ d) {k22 : Nat → Int32 → aH → Option (Int32 × aH)} (hk22 : ∀ {x0 : Nat} {x1 : Int32} {h : aH} {r : Int32} {h' : aH}, k22 x0 x1 h = some (r, h') → Ex Γ gX12_undo d 22 [(0, .ref x0), (1, .int x1)] [] h (some (.int r)) h') {x0 : Nat} {x1 : Int32} {h : aH} {r : Int32} {h' : aH} (H : b_X12_undo_22 k22 x0 x1 h = some (r, h')) : Ex Γ gX12_undo d 22 [(0, .ref x0), (1, .int x1)] [] h (some (.int r)) h' := by
  unfold b_X12_undo_22 at H
  refine x_iload_n dX12_undo_22 rfl 1 rfl ?_
  refine x_sipush (v := 1498) dX12_undo_23 (by decide) ?_
  refine x_icmp_ge (tgt := 56) dX12_undo_26 (by decide) (fun c1 => ?_) (fun c1 => ?_)
  · replace H := ite_p H c1
    refine x_aload_n dX12_undo_56 rfl 0 rfl ?_
    refine x_aload_n dX12_undo_57 rfl 0 rfl ?_
    obtain ⟨c2, H⟩ := ko_o H
    refine x_getI fr_X12_525 dX12_undo_58 c2 rfl ?_
    refine x_bipush (v := 20) dX12_undo_61 (by decide) ?_
    refine x_iadd dX12_undo_63 ?_
    refine x_iconst (v := 1) dX12_undo_64 (by decide) ?_
    refine x_isub dX12_undo_65 ?_
    refine x_bipush (v := 20) dX12_undo_66 (by decide) ?_
    refine x_irem dX12_undo_68 (by decide) ?_
    refine x_putI fl_X12_525 dX12_undo_69 c2 (fun e => by cases e) rfl ?_
    refine x_aload_n dX12_undo_72 rfl 0 rfl ?_
    refine x_dup dX12_undo_73 rfl ?_
    obtain ⟨v3, ev3, H⟩ := nm_o H
    refine x_getIe fr_X12_362 dX12_undo_74 c2 rfl ev3 ?_
    refine x_iconst (v := 1) dX12_undo_77 (by decide) ?_
    refine x_isub dX12_undo_78 ?_
    refine x_putI fl_X12_362 dX12_undo_79 c2 (fun e => by cases e) rfl ?_
    refine x_iconst (v := 1) dX12_undo_82 (by decide) ?_
    obtain ⟨rfl, rfl⟩ := so_1 H
    exact x_iret dX12_undo_83 rfl (by decide)
  · replace H := ite_m H c1
    refine x_aload_n dX12_undo_29 rfl 0 rfl ?_
    obtain ⟨c4, H⟩ := ko_o H
    obtain ⟨a5, c6, H⟩ := kr_o H
    refine x_getR fr_X12_115 dX12_undo_30 c4 rfl c6 ?_
    refine x_iload_n dX12_undo_33 rfl 1 rfl ?_
    refine x_aload_n dX12_undo_34 rfl 0 rfl ?_
    obtain ⟨a7, c8, H⟩ := kr_o H
    refine x_getR fr_X12_128 dX12_undo_35 c4 rfl c8 ?_
    refine x_sipush (v := 1498) dX12_undo_38 (by decide) ?_
    refine x_aload_n dX12_undo_41 rfl 0 rfl ?_
    refine x_getI fr_X12_525 dX12_undo_42 c4 rfl ?_
    refine x_imul dX12_undo_45 ?_
    refine x_iload_n dX12_undo_46 rfl 1 rfl ?_
    refine x_iadd dX12_undo_47 ?_
    obtain ⟨n10, c9, H⟩ := ka_o H
    obtain ⟨c11, H⟩ := chk_o H
    refine x_iald dX12_undo_48 c9 (inb_in.mp c11) ?_
    obtain ⟨n13, c12, H⟩ := ka_o H
    obtain ⟨c14, H⟩ := chk_o H
    refine x_iast dX12_undo_49 c12 (inb_in.mp c14) ?_
    obtain ⟨v15, ev15, H⟩ := nm_o H
    refine x_iinc (v := v15) (lv' := [(1, .int v15), (0, .ref x0)]) dX12_undo_50 1 rfl (by decide) ev15 rfl ?_
    refine x_goto (tgt := 22) dX12_undo_53 (by decide) ?_
    refine Ex.sub [1, 0] rfl ?_
    exact hk22 H
def f_X12_undo_22 : Nat → Nat → Int32 → aH → Option (Int32 × aH)
  | 0 => fun _ _ _ => none
  | n + 1 => b_X12_undo_22 (f_X12_undo_22 n)
set_option maxRecDepth 100000 in
set_option maxHeartbeats 4000000 in
theorem t_X12_undo_22 {Γ : gS} {d : Nat} (hd : 0 ≤ d) (n : Nat) : ∀ {x0 : Nat} {x1 : Int32} {h : aH} {r : Int32} {h' : aH}, f_X12_undo_22 n x0 x1 h = some (r, h') → Ex Γ gX12_undo d 22 [(0, .ref x0), (1, .int x1)] [] h (some (.int r)) h' := by
  induction n with
  | zero => intro x0 x1 h r h' H; cases H
  | succ n ih => intro x0 x1 h r h' H; exact tb_X12_undo_22 hd ih H
def f_X12_undo (x0 : Nat) (h : aH) : Option (Int32 × aH) :=
  ko h x0 11 <|
  if (hI h x0 63) = 0 then
    kr (hR h x0 9) fun a18 =>
    ka h a18 .int fun n21 =>
    chk (inb 6 n21 = true) <|
    some (0, sI h a18 (6 : Int32).toNatClampNeg ((hI h a18 (6 : Int32).toNatClampNeg) + 1))
  else
    f_X12_undo_22 FU x0 0 h
set_option maxRecDepth 100000 in
set_option maxHeartbeats 4000000 in
theorem t_X12_undo {Γ : gS} {d : Nat} (hd : 0 ≤ d) {x0 : Nat} {h : aH} {r : Int32} {h' : aH} (H : f_X12_undo x0 h = some (r, h')) : Mx Γ gX12_undo d [.ref x0] h (some (.int r)) h' := by
  refine Mx.of (by decide +kernel) (Nat.le_of_ble_eq_true rfl) ?_
  unfold f_X12_undo at H
  show Ex Γ gX12_undo d 0 [(0, .ref x0)] [] h (some (.int r)) h'
  refine x_aload_n dX12_undo_0 rfl 0 rfl ?_
  obtain ⟨c16, H⟩ := ko_o H
  refine x_getI fr_X12_362 dX12_undo_1 c16 rfl ?_
  refine x_if_ne (tgt := 20) dX12_undo_4 (by decide) (fun c17 => ?_) (fun c17 => ?_)
  · replace H := ite_m H c17
    refine x_iconst (v := 0) dX12_undo_20 (by decide) ?_
    refine x_istore_n (lv' := [(1, .int 0), (0, .ref x0)]) dX12_undo_21 rfl (by decide) rfl rfl ?_
    refine Ex.sub [1, 0] rfl ?_
    exact t_X12_undo_22 hd FU H
  · replace H := ite_p H c17
    refine x_aload_n dX12_undo_7 rfl 0 rfl ?_
    obtain ⟨a18, c19, H⟩ := kr_o H
    refine x_getR fr_X12_17 dX12_undo_8 c16 rfl c19 ?_
    refine x_bipush (v := 6) dX12_undo_11 (by decide) ?_
    refine x_dup2 dX12_undo_13 rfl rfl ?_
    obtain ⟨n21, c20, H⟩ := ka_o H
    obtain ⟨c22, H⟩ := chk_o H
    refine x_iald dX12_undo_14 c20 (inb_in.mp c22) ?_
    refine x_iconst (v := 1) dX12_undo_15 (by decide) ?_
    refine x_iadd dX12_undo_16 ?_
    refine x_iast dX12_undo_17 c20 (inb_in.mp c22) ?_
    refine x_iconst (v := 0) dX12_undo_18 (by decide) ?_
    obtain ⟨rfl, rfl⟩ := so_1 H
    exact x_iret dX12_undo_19 rfl (by decide)
def f_X12_isRefused (x0 : Nat) (x1 : Int32) (h : aH) : Option (Int32 × aH) :=
  ko h x0 11 <|
  kr (hR h x0 9) fun a2 =>
  ka h a2 .int fun n5 =>
  chk (inb x1 n5 = true) <|
  some (0, sI h a2 x1.toNatClampNeg ((hI h a2 x1.toNatClampNeg) + 1))
set_option maxRecDepth 100000 in
set_option maxHeartbeats 4000000 in
theorem t_X12_isRefused {Γ : gS} {d : Nat} (hd : 0 ≤ d) {x0 : Nat} {x1 : Int32} {h : aH} {r : Int32} {h' : aH} (H : f_X12_isRefused x0 x1 h = some (r, h')) : Mx Γ gX12_isRefused d [.ref x0, .int x1] h (some (.int r)) h' := by
  refine Mx.of (by decide +kernel) (Nat.le_of_ble_eq_true rfl) ?_
  unfold f_X12_isRefused at H
  show Ex Γ gX12_isRefused d 0 [(0, .ref x0), (1, .int x1)] [] h (some (.int r)) h'
  refine x_aload_n dX12_isRefused_0 rfl 0 rfl ?_
  obtain ⟨c1, H⟩ := ko_o H
  obtain ⟨a2, c3, H⟩ := kr_o H
  refine x_getR fr_X12_17 dX12_isRefused_1 c1 rfl c3 ?_
  refine x_iload_n dX12_isRefused_4 rfl 1 rfl ?_
  refine x_dup2 dX12_isRefused_5 rfl rfl ?_
  obtain ⟨n5, c4, H⟩ := ka_o H
  obtain ⟨c6, H⟩ := chk_o H
  refine x_iald dX12_isRefused_6 c4 (inb_in.mp c6) ?_
  refine x_iconst (v := 1) dX12_isRefused_7 (by decide) ?_
  refine x_iadd dX12_isRefused_8 ?_
  refine x_iast dX12_isRefused_9 c4 (inb_in.mp c6) ?_
  refine x_iconst (v := 0) dX12_isRefused_10 (by decide) ?_
  obtain ⟨rfl, rfl⟩ := so_1 H
  exact x_iret dX12_isRefused_11 rfl (by decide)
def f_X12_alloc_30 (x0 : Nat) (x1 : Int32) (x2 : Int32) (s0 : Int32) (h : aH) : Option (Int32 × aH) :=
  if s0 = (-1) then
    ko h x0 11 <|
    bd (f_X12_refuses x0 2 h) fun v10 h11 =>
    some (v10, h11)
  else
    ko h x0 11 <|
    bd (f_X12_keeps x0 h) fun _ h3 =>
    ko h3 x0 11 <|
    bd (f_X12_allocates x0 x1 s0 x2 h3) fun _ h6 =>
    some (s0, h6)
set_option maxRecDepth 100000 in
set_option maxHeartbeats 4000000 in
theorem t_X12_alloc_30 {Γ : gS} {d : Nat} (hd : 8 ≤ d) {x0 : Nat} {x1 : Int32} {x2 : Int32} {s0 : Int32} {h : aH} {r : Int32} {h' : aH} (H : f_X12_alloc_30 x0 x1 x2 s0 h = some (r, h')) : Ex Γ gX12_alloc d 30 [(0, .ref x0), (1, .int x1), (2, .int x2)] [.int s0] h (some (.int r)) h' := by
  unfold f_X12_alloc_30 at H
  obtain ⟨d, rfl⟩ : ∃ e, d = e + 1 := ⟨d - 1, by omega⟩
  refine x_istore_n (lv' := [(3, .int s0), (0, .ref x0), (1, .int x1), (2, .int x2)]) dX12_alloc_30 rfl (by decide) rfl rfl ?_
  refine x_iload_n dX12_alloc_31 rfl 0 rfl ?_
  refine x_iconst (v := (-1)) dX12_alloc_32 (by decide) ?_
  refine x_icmp_ne (tgt := 42) dX12_alloc_33 (by decide) (fun c1 => ?_) (fun c1 => ?_)
  · replace H := ite_m H c1
    refine x_aload_n dX12_alloc_42 rfl 1 rfl ?_
    obtain ⟨c9, H⟩ := ko_o H
    obtain ⟨v2, h3, hc4, H⟩ := bd_o H
    refine x_callVv (As := []) (q := (RX12, TX12, 103)) dX12_alloc_43 mi_X12_keeps lk_X12_528 im_X12_keeps se_X12_keeps rfl c9 rfl rfl (Nat.le_of_ble_eq_true rfl) (t_X12_keeps (by omega) hc4) ?_
    refine x_aload_n dX12_alloc_46 rfl 1 rfl ?_
    refine x_iload_n dX12_alloc_47 rfl 2 rfl ?_
    refine x_iload_n dX12_alloc_48 rfl 0 rfl ?_
    refine x_iload_n dX12_alloc_49 rfl 3 rfl ?_
    obtain ⟨c8, H⟩ := ko_o H
    obtain ⟨v5, h6, hc7, H⟩ := bd_o H
    refine x_callVv (As := [.int x1, .int s0, .int x2]) (q := (RX12, TX12, 103)) dX12_alloc_50 mi_X12_allocates lk_X12_531 im_X12_allocates se_X12_allocates rfl c8 rfl rfl (Nat.le_of_ble_eq_true rfl) (t_X12_allocates (by omega) hc7) ?_
    refine x_iload_n dX12_alloc_53 rfl 0 rfl ?_
    obtain ⟨rfl, rfl⟩ := so_1 H
    exact x_iret dX12_alloc_54 rfl rfl
  · replace H := ite_p H c1
    refine x_aload_n dX12_alloc_36 rfl 1 rfl ?_
    refine x_iconst (v := 2) dX12_alloc_37 (by decide) ?_
    obtain ⟨c13, H⟩ := ko_o H
    obtain ⟨v10, h11, hc12, H⟩ := bd_o H
    refine x_callVi (As := [.int 2]) (q := (RX12, TX12, 103)) dX12_alloc_38 mi_X12_refuses lk_X12_345 im_X12_refuses se_X12_refuses rfl c13 rfl rfl (Nat.le_of_ble_eq_true rfl) (t_X12_refuses (by omega) hc12) ?_
    obtain ⟨rfl, rfl⟩ := so_1 H
    exact x_iret dX12_alloc_41 rfl rfl
def f_X12_alloc_29 (x0 : Nat) (x1 : Int32) (x2 : Int32) (h : aH) : Option (Int32 × aH) :=
  f_X12_alloc_30 x0 x1 x2 (-1) h
set_option maxRecDepth 100000 in
set_option maxHeartbeats 4000000 in
theorem t_X12_alloc_29 {Γ : gS} {d : Nat} (hd : 8 ≤ d) {x0 : Nat} {x1 : Int32} {x2 : Int32} {h : aH} {r : Int32} {h' : aH} (H : f_X12_alloc_29 x0 x1 x2 h = some (r, h')) : Ex Γ gX12_alloc d 29 [(0, .ref x0), (1, .int x1), (2, .int x2)] [] h (some (.int r)) h' := by
  unfold f_X12_alloc_29 at H
  obtain ⟨d, rfl⟩ : ∃ e, d = e + 1 := ⟨d - 1, by omega⟩
  refine x_iconst (v := (-1)) dX12_alloc_29 (by decide) ?_
  exact t_X12_alloc_30 hd H
def f_X12_alloc (x0 : Nat) (x1 : Int32) (x2 : Int32) (h : aH) : Option (Int32 × aH) :=
  ko h x0 11 <|
  bd (f_X12_isPointer x0 x1.toInt64 h) fun v14 h15 =>
  if v14 = 0 then
    f_X12_alloc_29 x0 x1 x2 h15
  else
    bd (f_X12_isIn x2.toInt64 1 1024 h15) fun v18 h19 =>
    if v18 = 0 then
      f_X12_alloc_29 x0 x1 x2 h19
    else
      ko h19 x0 11 <|
      bd (f_X12_roomFor x0 x2 h19) fun v22 h23 =>
      f_X12_alloc_30 x0 x1 x2 v22 h23
set_option maxRecDepth 100000 in
set_option maxHeartbeats 4000000 in
theorem t_X12_alloc {Γ : gS} {d : Nat} (hd : 8 ≤ d) {x0 : Nat} {x1 : Int32} {x2 : Int32} {h : aH} {r : Int32} {h' : aH} (H : f_X12_alloc x0 x1 x2 h = some (r, h')) : Mx Γ gX12_alloc d [.ref x0, .int x1, .int x2] h (some (.int r)) h' := by
  refine Mx.of (by decide +kernel) (Nat.le_of_ble_eq_true rfl) ?_
  unfold f_X12_alloc at H
  show Ex Γ gX12_alloc d 0 [(0, .ref x0), (1, .int x1), (2, .int x2)] [] h (some (.int r)) h'
  obtain ⟨d, rfl⟩ : ∃ e, d = e + 1 := ⟨d - 1, by omega⟩
  refine x_aload_n dX12_alloc_0 rfl 0 rfl ?_
  refine x_iload_n dX12_alloc_1 rfl 1 rfl ?_
  refine x_i2l dX12_alloc_2 ?_
  obtain ⟨c26, H⟩ := ko_o H
  obtain ⟨v14, h15, hc16, H⟩ := bd_o H
  refine x_callVi (As := [.long x1.toInt64]) (q := (RX12, TX12, 103)) dX12_alloc_3 mi_X12_isPointer lk_X12_418 im_X12_isPointer se_X12_isPointer rfl c26 rfl rfl (Nat.le_of_ble_eq_true rfl) (t_X12_isPointer (by omega) hc16) ?_
  refine x_if_eq (tgt := 29) dX12_alloc_6 (by decide) (fun c17 => ?_) (fun c17 => ?_)
  · replace H := ite_p H c17
    exact t_X12_alloc_29 hd H
  · replace H := ite_m H c17
    refine x_iload_n dX12_alloc_9 rfl 2 rfl ?_
    refine x_i2l dX12_alloc_10 ?_
    refine x_lconst (v := 1) dX12_alloc_11 (by decide) ?_
    refine x_ldc2 kc_X12_507 dX12_alloc_12 ?_
    obtain ⟨v18, h19, hc20, H⟩ := bd_o H
    refine x_callSi (As := [.long x2.toInt64, .long 1, .long 1024]) dX12_alloc_15 mi_X12_isIn lk_X12_268 sm_X12_isIn rfl rfl (Nat.le_of_ble_eq_true rfl) (t_X12_isIn (by omega) hc20) ?_
    refine x_if_eq (tgt := 29) dX12_alloc_18 (by decide) (fun c21 => ?_) (fun c21 => ?_)
    · replace H := ite_p H c21
      exact t_X12_alloc_29 hd H
    · replace H := ite_m H c21
      refine x_aload_n dX12_alloc_21 rfl 0 rfl ?_
      refine x_iload_n dX12_alloc_22 rfl 2 rfl ?_
      obtain ⟨c25, H⟩ := ko_o H
      obtain ⟨v22, h23, hc24, H⟩ := bd_o H
      refine x_callVi (As := [.int x2]) (q := (RX12, TX12, 103)) dX12_alloc_23 mi_X12_roomFor lk_X12_509 im_X12_roomFor se_X12_roomFor rfl c25 rfl rfl (Nat.le_of_ble_eq_true rfl) (t_X12_roomFor (by omega) hc24) ?_
      refine x_goto (tgt := 30) dX12_alloc_26 (by decide) ?_
      exact t_X12_alloc_30 hd H
def f_X12_free_18 (x0 : Nat) (s0 : Int32) (h : aH) : Option (Int32 × aH) :=
  if s0 = (-1) then
    ko h x0 11 <|
    bd (f_X12_refuses x0 2 h) fun v14 h15 =>
    some (v14, h15)
  else
    ko h x0 11 <|
    bd (f_X12_objectOf x0 s0 1 h) fun v2 h3 =>
    ko h3 x0 11 <|
    bd (f_X12_keeps x0 h3) fun _ h6 =>
    ko h6 x0 11 <|
    bd (f_X12_frees x0 s0 h6) fun _ h9 =>
    some (v2, h9)
set_option maxRecDepth 100000 in
set_option maxHeartbeats 4000000 in
theorem t_X12_free_18 {Γ : gS} {d : Nat} (hd : 6 ≤ d) {x0 : Nat} {s0 : Int32} {h : aH} {r : Int32} {h' : aH} (H : f_X12_free_18 x0 s0 h = some (r, h')) : Ex Γ gX12_free d 18 [(0, .ref x0)] [.int s0] h (some (.int r)) h' := by
  unfold f_X12_free_18 at H
  obtain ⟨d, rfl⟩ : ∃ e, d = e + 1 := ⟨d - 1, by omega⟩
  refine x_istore_n (lv' := [(2, .int s0), (0, .ref x0)]) dX12_free_18 rfl (by decide) rfl rfl ?_
  refine x_iload_n dX12_free_19 rfl 0 rfl ?_
  refine x_iconst (v := (-1)) dX12_free_20 (by decide) ?_
  refine x_icmp_ne (tgt := 30) dX12_free_21 (by decide) (fun c1 => ?_) (fun c1 => ?_)
  · replace H := ite_m H c1
    refine x_aload_n dX12_free_30 rfl 1 rfl ?_
    refine x_iload_n dX12_free_31 rfl 0 rfl ?_
    refine x_iconst (v := 1) dX12_free_32 (by decide) ?_
    obtain ⟨c13, H⟩ := ko_o H
    obtain ⟨v2, h3, hc4, H⟩ := bd_o H
    refine x_callVi (As := [.int s0, .int 1]) (q := (RX12, TX12, 103)) dX12_free_33 mi_X12_objectOf lk_X12_428 im_X12_objectOf se_X12_objectOf rfl c13 rfl rfl (Nat.le_of_ble_eq_true rfl) (t_X12_objectOf (by omega) hc4) ?_
    refine x_istore_n (lv' := [(3, .int v2), (2, .int s0), (0, .ref x0)]) dX12_free_36 rfl (by decide) rfl rfl ?_
    refine x_aload_n dX12_free_37 rfl 2 rfl ?_
    obtain ⟨c12, H⟩ := ko_o H
    obtain ⟨v5, h6, hc7, H⟩ := bd_o H
    refine x_callVv (As := []) (q := (RX12, TX12, 103)) dX12_free_38 mi_X12_keeps lk_X12_528 im_X12_keeps se_X12_keeps rfl c12 rfl rfl (Nat.le_of_ble_eq_true rfl) (t_X12_keeps (by omega) hc7) ?_
    refine x_aload_n dX12_free_41 rfl 2 rfl ?_
    refine x_iload_n dX12_free_42 rfl 1 rfl ?_
    obtain ⟨c11, H⟩ := ko_o H
    obtain ⟨v8, h9, hc10, H⟩ := bd_o H
    refine x_callVv (As := [.int s0]) (q := (RX12, TX12, 103)) dX12_free_43 mi_X12_frees lk_X12_537 im_X12_frees se_X12_frees rfl c11 rfl rfl (Nat.le_of_ble_eq_true rfl) (t_X12_frees (by omega) hc10) ?_
    refine x_iload_n dX12_free_46 rfl 0 rfl ?_
    obtain ⟨rfl, rfl⟩ := so_1 H
    exact x_iret dX12_free_47 rfl rfl
  · replace H := ite_p H c1
    refine x_aload_n dX12_free_24 rfl 1 rfl ?_
    refine x_iconst (v := 2) dX12_free_25 (by decide) ?_
    obtain ⟨c17, H⟩ := ko_o H
    obtain ⟨v14, h15, hc16, H⟩ := bd_o H
    refine x_callVi (As := [.int 2]) (q := (RX12, TX12, 103)) dX12_free_26 mi_X12_refuses lk_X12_345 im_X12_refuses se_X12_refuses rfl c17 rfl rfl (Nat.le_of_ble_eq_true rfl) (t_X12_refuses (by omega) hc16) ?_
    obtain ⟨rfl, rfl⟩ := so_1 H
    exact x_iret dX12_free_29 rfl rfl
def f_X12_free (x0 : Nat) (x1 : Int32) (h : aH) : Option (Int32 × aH) :=
  ko h x0 11 <|
  bd (f_X12_isPointer x0 x1.toInt64 h) fun v18 h19 =>
  if v18 = 0 then
    f_X12_free_18 x0 (-1) h19
  else
    ko h19 x0 11 <|
    bd (f_X12_objectBy x0 x1 h19) fun v22 h23 =>
    f_X12_free_18 x0 v22 h23
set_option maxRecDepth 100000 in
set_option maxHeartbeats 4000000 in
theorem t_X12_free {Γ : gS} {d : Nat} (hd : 6 ≤ d) {x0 : Nat} {x1 : Int32} {h : aH} {r : Int32} {h' : aH} (H : f_X12_free x0 x1 h = some (r, h')) : Mx Γ gX12_free d [.ref x0, .int x1] h (some (.int r)) h' := by
  refine Mx.of (by decide +kernel) (Nat.le_of_ble_eq_true rfl) ?_
  unfold f_X12_free at H
  show Ex Γ gX12_free d 0 [(0, .ref x0), (1, .int x1)] [] h (some (.int r)) h'
  obtain ⟨d, rfl⟩ : ∃ e, d = e + 1 := ⟨d - 1, by omega⟩
  refine x_aload_n dX12_free_0 rfl 0 rfl ?_
  refine x_iload_n dX12_free_1 rfl 1 rfl ?_
  refine x_i2l dX12_free_2 ?_
  obtain ⟨c26, H⟩ := ko_o H
  obtain ⟨v18, h19, hc20, H⟩ := bd_o H
  refine x_callVi (As := [.long x1.toInt64]) (q := (RX12, TX12, 103)) dX12_free_3 mi_X12_isPointer lk_X12_418 im_X12_isPointer se_X12_isPointer rfl c26 rfl rfl (Nat.le_of_ble_eq_true rfl) (t_X12_isPointer (by omega) hc20) ?_
  refine x_if_eq (tgt := 17) dX12_free_6 (by decide) (fun c21 => ?_) (fun c21 => ?_)
  · replace H := ite_p H c21
    refine x_iconst (v := (-1)) dX12_free_17 (by decide) ?_
    refine Ex.sub [0] rfl ?_
    exact t_X12_free_18 hd H
  · replace H := ite_m H c21
    refine x_aload_n dX12_free_9 rfl 0 rfl ?_
    refine x_iload_n dX12_free_10 rfl 1 rfl ?_
    obtain ⟨c25, H⟩ := ko_o H
    obtain ⟨v22, h23, hc24, H⟩ := bd_o H
    refine x_callVi (As := [.int x1]) (q := (RX12, TX12, 103)) dX12_free_11 mi_X12_objectBy lk_X12_534 im_X12_objectBy se_X12_objectBy rfl c25 rfl rfl (Nat.le_of_ble_eq_true rfl) (t_X12_objectBy (by omega) hc24) ?_
    refine x_goto (tgt := 18) dX12_free_14 (by decide) ?_
    refine Ex.sub [0] rfl ?_
    exact t_X12_free_18 hd H
def b_X12_copies_2 (k2 : Nat → Int32 → Int32 → Int32 → aH → Option (Unit × aH)) (x0 : Nat) (x1 : Int32) (x2 : Int32) (x3 : Int32) (h : aH) : Option (Unit × aH) :=
  if 8 ≤ x3 then
    some ((), h)
  else
    ko h x0 11 <|
    kr (hR h x0 47) fun a3 =>
    ka h a3 .int fun n6 =>
    chk (inb (x1 + x3) n6 = true) <|
    chk (inb (x2 + x3) n6 = true) <|
    nm (x3 + 1) fun (v9 : Int32) =>
    k2 x0 x1 x2 v9 (sI h a3 (x2 + x3 : Int32).toNatClampNeg (hI h a3 (x1 + x3 : Int32).toNatClampNeg))
set_option maxRecDepth 100000 in
set_option maxHeartbeats 4000000 in
theorem tb_X12_copies_2 {Γ : gS} {d : Nat} (hd : 0 ≤ d) {k2 : Nat → Int32 → Int32 → Int32 → aH → Option (Unit × aH)} (hk2 : ∀ {x0 : Nat} {x1 : Int32} {x2 : Int32} {x3 : Int32} {h : aH} {r : Unit} {h' : aH}, k2 x0 x1 x2 x3 h = some (r, h') → Ex Γ gX12_copies d 2 [(0, .ref x0), (1, .int x1), (2, .int x2), (3, .int x3)] [] h none h') {x0 : Nat} {x1 : Int32} {x2 : Int32} {x3 : Int32} {h : aH} {r : Unit} {h' : aH} (H : b_X12_copies_2 k2 x0 x1 x2 x3 h = some (r, h')) : Ex Γ gX12_copies d 2 [(0, .ref x0), (1, .int x1), (2, .int x2), (3, .int x3)] [] h none h' := by
  unfold b_X12_copies_2 at H
  refine x_iload_n dX12_copies_2 rfl 3 rfl ?_
  refine x_bipush (v := 8) dX12_copies_3 (by decide) ?_
  refine x_icmp_ge (tgt := 30) dX12_copies_5 (by decide) (fun c1 => ?_) (fun c1 => ?_)
  · replace H := ite_p H c1
    obtain ⟨-, rfl⟩ := so_1 H
    exact x_vret dX12_copies_30 rfl
  · replace H := ite_m H c1
    refine x_aload_n dX12_copies_8 rfl 0 rfl ?_
    obtain ⟨c2, H⟩ := ko_o H
    obtain ⟨a3, c4, H⟩ := kr_o H
    refine x_getR fr_X12_115 dX12_copies_9 c2 rfl c4 ?_
    refine x_iload_n dX12_copies_12 rfl 2 rfl ?_
    refine x_iload_n dX12_copies_13 rfl 3 rfl ?_
    refine x_iadd dX12_copies_14 ?_
    refine x_aload_n dX12_copies_15 rfl 0 rfl ?_
    refine x_getR fr_X12_115 dX12_copies_16 c2 rfl c4 ?_
    refine x_iload_n dX12_copies_19 rfl 1 rfl ?_
    refine x_iload_n dX12_copies_20 rfl 3 rfl ?_
    refine x_iadd dX12_copies_21 ?_
    obtain ⟨n6, c5, H⟩ := ka_o H
    obtain ⟨c7, H⟩ := chk_o H
    refine x_iald dX12_copies_22 c5 (inb_in.mp c7) ?_
    obtain ⟨c8, H⟩ := chk_o H
    refine x_iast dX12_copies_23 c5 (inb_in.mp c8) ?_
    obtain ⟨v9, ev9, H⟩ := nm_o H
    refine x_iinc (v := v9) (lv' := [(3, .int v9), (0, .ref x0), (1, .int x1), (2, .int x2)]) dX12_copies_24 3 rfl (by decide) ev9 rfl ?_
    refine x_goto (tgt := 2) dX12_copies_27 (by decide) ?_
    refine Ex.sub [1, 2, 3, 0] rfl ?_
    exact hk2 H
def f_X12_copies_2 : Nat → Nat → Int32 → Int32 → Int32 → aH → Option (Unit × aH)
  | 0 => fun _ _ _ _ _ => none
  | n + 1 => b_X12_copies_2 (f_X12_copies_2 n)
set_option maxRecDepth 100000 in
set_option maxHeartbeats 4000000 in
theorem t_X12_copies_2 {Γ : gS} {d : Nat} (hd : 0 ≤ d) (n : Nat) : ∀ {x0 : Nat} {x1 : Int32} {x2 : Int32} {x3 : Int32} {h : aH} {r : Unit} {h' : aH}, f_X12_copies_2 n x0 x1 x2 x3 h = some (r, h') → Ex Γ gX12_copies d 2 [(0, .ref x0), (1, .int x1), (2, .int x2), (3, .int x3)] [] h none h' := by
  induction n with
  | zero => intro x0 x1 x2 x3 h r h' H; cases H
  | succ n ih => intro x0 x1 x2 x3 h r h' H; exact tb_X12_copies_2 hd ih H
def f_X12_copies (x0 : Nat) (x1 : Int32) (x2 : Int32) (h : aH) : Option (Unit × aH) :=
  f_X12_copies_2 FU x0 x1 x2 0 h
set_option maxRecDepth 100000 in
set_option maxHeartbeats 4000000 in
theorem t_X12_copies {Γ : gS} {d : Nat} (hd : 0 ≤ d) {x0 : Nat} {x1 : Int32} {x2 : Int32} {h : aH} {r : Unit} {h' : aH} (H : f_X12_copies x0 x1 x2 h = some (r, h')) : Mx Γ gX12_copies d [.ref x0, .int x1, .int x2] h none h' := by
  refine Mx.of (by decide +kernel) (Nat.le_of_ble_eq_true rfl) ?_
  unfold f_X12_copies at H
  show Ex Γ gX12_copies d 0 [(0, .ref x0), (1, .int x1), (2, .int x2)] [] h none h'
  refine x_iconst (v := 0) dX12_copies_0 (by decide) ?_
  refine x_istore_n (lv' := [(3, .int 0), (0, .ref x0), (1, .int x1), (2, .int x2)]) dX12_copies_1 rfl (by decide) rfl rfl ?_
  refine Ex.sub [1, 2, 3, 0] rfl ?_
  exact t_X12_copies_2 hd FU H
