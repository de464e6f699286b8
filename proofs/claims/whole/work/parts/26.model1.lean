def f_X12_qTest_106 (k2 : Nat → Int32 → aH → Option (Unit × aH)) (x0 : Nat) (s0 : Int32) (h : aH) : Option (Unit × aH) :=
  k2 x0 s0 h
set_option maxRecDepth 100000 in
set_option maxHeartbeats 4000000 in
theorem t_X12_qTest_106 {Γ : gS} {d : Nat} (hd : 8 ≤ d) {k2 : Nat → Int32 → aH → Option (Unit × aH)} (hk2 : ∀ {x0 : Nat} {x1 : Int32} {h : aH} {r : Unit} {h' : aH}, k2 x0 x1 h = some (r, h') → Ex Γ gX12_qTest d 2 [(0, .ref x0), (1, .int x1)] [] h none h') {x0 : Nat} {s0 : Int32} {h : aH} {r : Unit} {h' : aH} (H : f_X12_qTest_106 k2 x0 s0 h = some (r, h')) : Ex Γ gX12_qTest d 106 [(0, .ref x0)] [.int s0] h none h' := by
  unfold f_X12_qTest_106 at H
  obtain ⟨d, rfl⟩ : ∃ e, d = e + 1 := ⟨d - 1, by omega⟩
  refine x_istore_n (lv' := [(1, .int s0), (0, .ref x0)]) dX12_qTest_106 rfl (by decide) rfl rfl ?_
  refine x_goto (tgt := 2) dX12_qTest_107 (by decide) ?_
  refine Ex.sub [1, 0] rfl ?_
  exact hk2 H
def f_X12_qTest_105 (k2 : Nat → Int32 → aH → Option (Unit × aH)) (x0 : Nat) (h : aH) : Option (Unit × aH) :=
  f_X12_qTest_106 k2 x0 0 h
set_option maxRecDepth 100000 in
set_option maxHeartbeats 4000000 in
theorem t_X12_qTest_105 {Γ : gS} {d : Nat} (hd : 8 ≤ d) {k2 : Nat → Int32 → aH → Option (Unit × aH)} (hk2 : ∀ {x0 : Nat} {x1 : Int32} {h : aH} {r : Unit} {h' : aH}, k2 x0 x1 h = some (r, h') → Ex Γ gX12_qTest d 2 [(0, .ref x0), (1, .int x1)] [] h none h') {x0 : Nat} {h : aH} {r : Unit} {h' : aH} (H : f_X12_qTest_105 k2 x0 h = some (r, h')) : Ex Γ gX12_qTest d 105 [(0, .ref x0)] [] h none h' := by
  unfold f_X12_qTest_105 at H
  obtain ⟨d, rfl⟩ : ∃ e, d = e + 1 := ⟨d - 1, by omega⟩
  refine x_iconst (v := 0) dX12_qTest_105 (by decide) ?_
  exact t_X12_qTest_106 hd hk2 H
def f_X12_qTest_131 (h : aH) : Option (Unit × aH) :=
  some ((), h)
set_option maxRecDepth 100000 in
set_option maxHeartbeats 4000000 in
theorem t_X12_qTest_131 {Γ : gS} {d : Nat} (hd : 8 ≤ d) {h : aH} {r : Unit} {h' : aH} (H : f_X12_qTest_131 h = some (r, h')) : Ex Γ gX12_qTest d 131 [] [] h none h' := by
  unfold f_X12_qTest_131 at H
  obtain ⟨d, rfl⟩ : ∃ e, d = e + 1 := ⟨d - 1, by omega⟩
  obtain ⟨-, rfl⟩ := so_1 H
  exact x_vret dX12_qTest_131 rfl
def b_X12_qTest_110 (k110 : Nat → aH → Option (Unit × aH)) (x0 : Nat) (h : aH) : Option (Unit × aH) :=
  ko h x0 11 <|
  if (hI h x0 5) = 0 then
    if (hI h x0 94) ≤ 0 then
      f_X12_qTest_131 h
    else
      bd (f_X12_qDrops x0 h) fun _ h5 =>
      k110 x0 h5
  else
    f_X12_qTest_131 h
set_option maxRecDepth 100000 in
set_option maxHeartbeats 4000000 in
theorem tb_X12_qTest_110 {Γ : gS} {d : Nat} (hd : 8 ≤ d) {k110 : Nat → aH → Option (Unit × aH)} (hk110 : ∀ {x0 : Nat} {h : aH} {r : Unit} {h' : aH}, k110 x0 h = some (r, h') → Ex Γ gX12_qTest d 110 [(0, .ref x0)] [] h none h') {x0 : Nat} {h : aH} {r : Unit} {h' : aH} (H : b_X12_qTest_110 k110 x0 h = some (r, h')) : Ex Γ gX12_qTest d 110 [(0, .ref x0)] [] h none h' := by
  unfold b_X12_qTest_110 at H
  obtain ⟨d, rfl⟩ : ∃ e, d = e + 1 := ⟨d - 1, by omega⟩
  refine x_aload_n dX12_qTest_110 rfl 0 rfl ?_
  obtain ⟨c1, H⟩ := ko_o H
  refine x_getI fr_X12_225 dX12_qTest_111 c1 rfl ?_
  refine x_if_ne (tgt := 131) dX12_qTest_114 (by decide) (fun c2 => ?_) (fun c2 => ?_)
  · replace H := ite_m H c2
    refine Ex.sub [] rfl ?_
    exact t_X12_qTest_131 hd H
  · replace H := ite_p H c2
    refine x_aload_n dX12_qTest_117 rfl 0 rfl ?_
    refine x_getI fr_X12_309 dX12_qTest_118 c1 rfl ?_
    refine x_if_le (tgt := 131) dX12_qTest_121 (by decide) (fun c3 => ?_) (fun c3 => ?_)
    · replace H := ite_p H c3
      refine Ex.sub [] rfl ?_
      exact t_X12_qTest_131 hd H
    · replace H := ite_m H c3
      refine x_aload_n dX12_qTest_124 rfl 0 rfl ?_
      obtain ⟨v4, h5, hc6, H⟩ := bd_o H
      refine x_callVv (As := []) (q := (RX12, TX12, 103)) dX12_qTest_125 mi_X12_qDrops lk_X12_581 im_X12_qDrops se_X12_qDrops rfl c1 rfl rfl (Nat.le_of_ble_eq_true rfl) (t_X12_qDrops (by omega) hc6) ?_
      refine x_goto (tgt := 110) dX12_qTest_128 (by decide) ?_
      exact hk110 H
def f_X12_qTest_110 : Nat → Nat → aH → Option (Unit × aH)
  | 0 => fun _ _ => none
  | n + 1 => b_X12_qTest_110 (f_X12_qTest_110 n)
set_option maxRecDepth 100000 in
set_option maxHeartbeats 4000000 in
theorem t_X12_qTest_110 {Γ : gS} {d : Nat} (hd : 8 ≤ d) (n : Nat) : ∀ {x0 : Nat} {h : aH} {r : Unit} {h' : aH}, f_X12_qTest_110 n x0 h = some (r, h') → Ex Γ gX12_qTest d 110 [(0, .ref x0)] [] h none h' := by
  induction n with
  | zero => intro x0 h r h' H; cases H
  | succ n ih => intro x0 h r h' H; exact tb_X12_qTest_110 hd ih H
def b_X12_qTest_2 (k2 : Nat → Int32 → aH → Option (Unit × aH)) (x0 : Nat) (x1 : Int32) (h : aH) : Option (Unit × aH) :=
  if x1 = 0 then
    f_X12_qTest_110 FU x0 h
  else
    ko h x0 11 <|
    if (hI h x0 5) = 0 then
      bd (f_X12_look x0 h) fun v10 h11 =>
      if v10 = 91 then
        ko h11 x0 11 <|
        bd (f_X12_qOpens x0 25 (hI h11 x0 2) h11) fun _ h47 =>
        ko h47 x0 11 <|
        k2 x0 x1 (sI h47 x0 2 ((hI h47 x0 2) + 1))
      else
        ko h11 x0 11 <|
        kr (hR h11 x0 72) fun a15 =>
        bd (f_X12_isHere x0 a15 h11) fun v17 h18 =>
        if v17 = 0 then
          ko h18 x0 11 <|
          bd (f_X12_qFact x0 h18) fun _ h22 =>
          ko h22 x0 11 <|
          bd (f_X12_qDropsNots x0 h22) fun _ h25 =>
          ko h25 x0 11 <|
          if (hI h25 x0 5) = 0 then
            bd (f_X12_qGoesOnTest x0 h25) fun v29 h30 =>
            if v29 = 0 then
              f_X12_qTest_105 k2 x0 h30
            else
              f_X12_qTest_106 k2 x0 1 h30
          else
            f_X12_qTest_105 k2 x0 h25
        else
          ko h18 x0 11 <|
          bd (f_X12_qOpens x0 12 (hI h18 x0 2) h18) fun _ h37 =>
          ko h37 x0 11 <|
          kr (hR h37 x0 72) fun a40 =>
          bd (f_X12_asks x0 a40 h37) fun _ h43 =>
          k2 x0 x1 h43
    else
      f_X12_qTest_110 FU x0 h
set_option maxRecDepth 100000 in
set_option maxHeartbeats 4000000 in
theorem tb_X12_qTest_2 {Γ : gS} {d : Nat} (hd : 8 ≤ d) {k2 : Nat → Int32 → aH → Option (Unit × aH)} (hk2 : ∀ {x0 : Nat} {x1 : Int32} {h : aH} {r : Unit} {h' : aH}, k2 x0 x1 h = some (r, h') → Ex Γ gX12_qTest d 2 [(0, .ref x0), (1, .int x1)] [] h none h') {x0 : Nat} {x1 : Int32} {h : aH} {r : Unit} {h' : aH} (H : b_X12_qTest_2 k2 x0 x1 h = some (r, h')) : Ex Γ gX12_qTest d 2 [(0, .ref x0), (1, .int x1)] [] h none h' := by
  unfold b_X12_qTest_2 at H
  obtain ⟨d, rfl⟩ : ∃ e, d = e + 1 := ⟨d - 1, by omega⟩
  refine x_iload_n dX12_qTest_2 rfl 1 rfl ?_
  refine x_if_eq (tgt := 110) dX12_qTest_3 (by decide) (fun c7 => ?_) (fun c7 => ?_)
  · replace H := ite_p H c7
    refine Ex.sub [0] rfl ?_
    exact t_X12_qTest_110 hd FU H
  · replace H := ite_m H c7
    refine x_aload_n dX12_qTest_6 rfl 0 rfl ?_
    obtain ⟨c8, H⟩ := ko_o H
    refine x_getI fr_X12_225 dX12_qTest_7 c8 rfl ?_
    refine x_if_ne (tgt := 110) dX12_qTest_10 (by decide) (fun c9 => ?_) (fun c9 => ?_)
    · replace H := ite_m H c9
      refine Ex.sub [0] rfl ?_
      exact t_X12_qTest_110 hd FU H
    · replace H := ite_p H c9
      refine x_aload_n dX12_qTest_13 rfl 0 rfl ?_
      obtain ⟨v10, h11, hc12, H⟩ := bd_o H
      refine x_callVi (As := []) (q := (RX12, TX12, 103)) dX12_qTest_14 mi_X12_look lk_X12_237 im_X12_look se_X12_look rfl c8 rfl rfl (Nat.le_of_ble_eq_true rfl) (t_X12_look (by omega) hc12) ?_
      refine x_istore_n (lv' := [(2, .int v10), (0, .ref x0), (1, .int x1)]) dX12_qTest_17 rfl (by decide) rfl rfl ?_
      refine x_iload_n dX12_qTest_18 rfl 0 rfl ?_
      refine x_bipush (v := 91) dX12_qTest_19 (by decide) ?_
      refine x_icmp_ne (tgt := 47) dX12_qTest_21 (by decide) (fun c13 => ?_) (fun c13 => ?_)
      · replace H := ite_m H c13
        refine x_aload_n dX12_qTest_47 rfl 1 rfl ?_
        refine x_aload_n dX12_qTest_48 rfl 1 rfl ?_
        obtain ⟨c14, H⟩ := ko_o H
        obtain ⟨a15, c16, H⟩ := kr_o H
        refine x_getR fr_X12_153 dX12_qTest_49 c14 rfl c16 ?_
        obtain ⟨v17, h18, hc19, H⟩ := bd_o H
        refine x_callVi (As := [.ref a15]) (q := (RX12, TX12, 103)) dX12_qTest_52 mi_X12_isHere lk_X12_248 im_X12_isHere se_X12_isHere rfl c14 rfl rfl (Nat.le_of_ble_eq_true rfl) (t_X12_isHere (by omega) hc19) ?_
        refine x_if_eq (tgt := 79) dX12_qTest_55 (by decide) (fun c20 => ?_) (fun c20 => ?_)
        · replace H := ite_p H c20
          refine x_aload_n dX12_qTest_79 rfl 1 rfl ?_
          obtain ⟨c34, H⟩ := ko_o H
          obtain ⟨v21, h22, hc23, H⟩ := bd_o H
          refine x_callVv (As := []) (q := (RX12, TX12, 103)) dX12_qTest_80 mi_X12_qFact lk_X12_617 im_X12_qFact se_X12_qFact rfl c34 rfl rfl (Nat.le_of_ble_eq_true rfl) (t_X12_qFact (by omega) hc23) ?_
          refine x_aload_n dX12_qTest_83 rfl 1 rfl ?_
          obtain ⟨c33, H⟩ := ko_o H
          obtain ⟨v24, h25, hc26, H⟩ := bd_o H
          refine x_callVv (As := []) (q := (RX12, TX12, 103)) dX12_qTest_84 mi_X12_qDropsNots lk_X12_620 im_X12_qDropsNots se_X12_qDropsNots rfl c33 rfl rfl (Nat.le_of_ble_eq_true rfl) (t_X12_qDropsNots (by omega) hc26) ?_
          refine x_aload_n dX12_qTest_87 rfl 1 rfl ?_
          obtain ⟨c27, H⟩ := ko_o H
          refine x_getI fr_X12_225 dX12_qTest_88 c27 rfl ?_
          refine x_if_ne (tgt := 105) dX12_qTest_91 (by decide) (fun c28 => ?_) (fun c28 => ?_)
          · replace H := ite_m H c28
            refine Ex.sub [1] rfl ?_
            exact t_X12_qTest_105 hd hk2 H
          · replace H := ite_p H c28
            refine x_aload_n dX12_qTest_94 rfl 1 rfl ?_
            obtain ⟨v29, h30, hc31, H⟩ := bd_o H
            refine x_callVi (As := []) (q := (RX12, TX12, 103)) dX12_qTest_95 mi_X12_qGoesOnTest lk_X12_623 im_X12_qGoesOnTest se_X12_qGoesOnTest rfl c27 rfl rfl (Nat.le_of_ble_eq_true rfl) (t_X12_qGoesOnTest (by omega) hc31) ?_
            refine x_if_eq (tgt := 105) dX12_qTest_98 (by decide) (fun c32 => ?_) (fun c32 => ?_)
            · replace H := ite_p H c32
              refine Ex.sub [1] rfl ?_
              exact t_X12_qTest_105 hd hk2 H
            · replace H := ite_m H c32
              refine x_iconst (v := 1) dX12_qTest_101 (by decide) ?_
              refine x_goto (tgt := 106) dX12_qTest_102 (by decide) ?_
              refine Ex.sub [1] rfl ?_
              exact t_X12_qTest_106 hd hk2 H
        · replace H := ite_m H c20
          refine x_aload_n dX12_qTest_58 rfl 1 rfl ?_
          refine x_bipush (v := 12) dX12_qTest_59 (by decide) ?_
          refine x_aload_n dX12_qTest_61 rfl 1 rfl ?_
          obtain ⟨c35, H⟩ := ko_o H
          refine x_getI fr_X12_231 dX12_qTest_62 c35 rfl ?_
          obtain ⟨v36, h37, hc38, H⟩ := bd_o H
          refine x_callVv (As := [.int 12, .int (hI h18 x0 2)]) (q := (RX12, TX12, 103)) dX12_qTest_65 mi_X12_qOpens lk_X12_593 im_X12_qOpens se_X12_qOpens rfl c35 rfl rfl (Nat.le_of_ble_eq_true rfl) (t_X12_qOpens (by omega) hc38) ?_
          refine x_aload_n dX12_qTest_68 rfl 1 rfl ?_
          refine x_aload_n dX12_qTest_69 rfl 1 rfl ?_
          obtain ⟨c39, H⟩ := ko_o H
          obtain ⟨a40, c41, H⟩ := kr_o H
          refine x_getR fr_X12_153 dX12_qTest_70 c39 rfl c41 ?_
          obtain ⟨v42, h43, hc44, H⟩ := bd_o H
          refine x_callVv (As := [.ref a40]) (q := (RX12, TX12, 103)) dX12_qTest_73 mi_X12_asks lk_X12_290 im_X12_asks se_X12_asks rfl c39 rfl rfl (Nat.le_of_ble_eq_true rfl) (t_X12_asks (by omega) hc44) ?_
          refine x_goto (tgt := 2) dX12_qTest_76 (by decide) ?_
          refine Ex.sub [1, 2] rfl ?_
          exact hk2 H
      · replace H := ite_p H c13
        refine x_aload_n dX12_qTest_24 rfl 1 rfl ?_
        refine x_bipush (v := 25) dX12_qTest_25 (by decide) ?_
        refine x_aload_n dX12_qTest_27 rfl 1 rfl ?_
        obtain ⟨c45, H⟩ := ko_o H
        refine x_getI fr_X12_231 dX12_qTest_28 c45 rfl ?_
        obtain ⟨v46, h47, hc48, H⟩ := bd_o H
        refine x_callVv (As := [.int 25, .int (hI h11 x0 2)]) (q := (RX12, TX12, 103)) dX12_qTest_31 mi_X12_qOpens lk_X12_593 im_X12_qOpens se_X12_qOpens rfl c45 rfl rfl (Nat.le_of_ble_eq_true rfl) (t_X12_qOpens (by omega) hc48) ?_
        refine x_aload_n dX12_qTest_34 rfl 1 rfl ?_
        refine x_dup dX12_qTest_35 rfl ?_
        obtain ⟨c49, H⟩ := ko_o H
        refine x_getI fr_X12_231 dX12_qTest_36 c49 rfl ?_
        refine x_iconst (v := 1) dX12_qTest_39 (by decide) ?_
        refine x_iadd dX12_qTest_40 ?_
        refine x_putI fl_X12_231 dX12_qTest_41 c49 (fun e => by cases e) rfl ?_
        refine x_goto (tgt := 2) dX12_qTest_44 (by decide) ?_
        refine Ex.sub [1, 2] rfl ?_
        exact hk2 H
def f_X12_qTest_2 : Nat → Nat → Int32 → aH → Option (Unit × aH)
  | 0 => fun _ _ _ => none
  | n + 1 => b_X12_qTest_2 (f_X12_qTest_2 n)
set_option maxRecDepth 100000 in
set_option maxHeartbeats 4000000 in
theorem t_X12_qTest_2 {Γ : gS} {d : Nat} (hd : 8 ≤ d) (n : Nat) : ∀ {x0 : Nat} {x1 : Int32} {h : aH} {r : Unit} {h' : aH}, f_X12_qTest_2 n x0 x1 h = some (r, h') → Ex Γ gX12_qTest d 2 [(0, .ref x0), (1, .int x1)] [] h none h' := by
  induction n with
  | zero => intro x0 x1 h r h' H; cases H
  | succ n ih => intro x0 x1 h r h' H; exact tb_X12_qTest_2 hd ih H
def f_X12_qTest (x0 : Nat) (h : aH) : Option (Unit × aH) :=
  f_X12_qTest_2 FU x0 1 h
set_option maxRecDepth 100000 in
set_option maxHeartbeats 4000000 in
theorem t_X12_qTest {Γ : gS} {d : Nat} (hd : 8 ≤ d) {x0 : Nat} {h : aH} {r : Unit} {h' : aH} (H : f_X12_qTest x0 h = some (r, h')) : Mx Γ gX12_qTest d [.ref x0] h none h' := by
  refine Mx.of (by decide +kernel) (Nat.le_of_ble_eq_true rfl) ?_
  unfold f_X12_qTest at H
  show Ex Γ gX12_qTest d 0 [(0, .ref x0)] [] h none h'
  obtain ⟨d, rfl⟩ : ∃ e, d = e + 1 := ⟨d - 1, by omega⟩
  refine x_iconst (v := 1) dX12_qTest_0 (by decide) ?_
  refine x_istore_n (lv' := [(1, .int 1), (0, .ref x0)]) dX12_qTest_1 rfl (by decide) rfl rfl ?_
  refine Ex.sub [1, 0] rfl ?_
  exact t_X12_qTest_2 hd FU H
def b_X12_codesTold_92 (k92 : Nat → Int32 → Int32 → aH → Option (Unit × aH)) (x0 : Nat) (x1 : Int32) (x3 : Int32) (h : aH) : Option (Unit × aH) :=
  ko h x0 11 <|
  if (hI h x0 92) ≤ x3 then
    kr (hR h x0 41) fun a3 =>
    ka h a3 .int fun n6 =>
    chk (inb x1 n6 = true) <|
    some ((), sI h a3 x1.toNatClampNeg (hI h x0 43))
  else
    kr (hR h x0 42) fun a8 =>
    kr (hR h x0 91) fun a10 =>
    ka h a10 .int fun n13 =>
    chk (inb x3 n13 = true) <|
    ka h a8 .int fun n16 =>
    chk (inb (hI h x0 43) n16 = true) <|
    nm (hI (sI h a8 (hI h x0 43 : Int32).toNatClampNeg (hI h a10 x3.toNatClampNeg)) x0 43) fun (v18 : Int32) =>
    nm (x3 + 1) fun (v19 : Int32) =>
    k92 x0 x1 v19 (sI (sI h a8 (hI h x0 43 : Int32).toNatClampNeg (hI h a10 x3.toNatClampNeg)) x0 43 (v18 + 1))
set_option maxRecDepth 100000 in
set_option maxHeartbeats 4000000 in
theorem tb_X12_codesTold_92 {Γ : gS} {d : Nat} (hd : 9 ≤ d) {k92 : Nat → Int32 → Int32 → aH → Option (Unit × aH)} (hk92 : ∀ {x0 : Nat} {x1 : Int32} {x3 : Int32} {h : aH} {r : Unit} {h' : aH}, k92 x0 x1 x3 h = some (r, h') → Ex Γ gX12_codesTold d 92 [(0, .ref x0), (1, .int x1), (3, .int x3)] [] h none h') {x0 : Nat} {x1 : Int32} {x3 : Int32} {h : aH} {r : Unit} {h' : aH} (H : b_X12_codesTold_92 k92 x0 x1 x3 h = some (r, h')) : Ex Γ gX12_codesTold d 92 [(0, .ref x0), (1, .int x1), (3, .int x3)] [] h none h' := by
  unfold b_X12_codesTold_92 at H
  obtain ⟨d, rfl⟩ : ∃ e, d = e + 1 := ⟨d - 1, by omega⟩
  refine x_iload_n dX12_codesTold_92 rfl 2 rfl ?_
  refine x_aload_n dX12_codesTold_93 rfl 0 rfl ?_
  obtain ⟨c1, H⟩ := ko_o H
  refine x_getI fr_X12_306 dX12_codesTold_94 c1 rfl ?_
  refine x_icmp_ge (tgt := 131) dX12_codesTold_97 (by decide) (fun c2 => ?_) (fun c2 => ?_)
  · replace H := ite_p H c2
    refine x_aload_n dX12_codesTold_131 rfl 0 rfl ?_
    obtain ⟨a3, c4, H⟩ := kr_o H
    refine x_getR fr_X12_109 dX12_codesTold_132 c1 rfl c4 ?_
    refine x_iload_n dX12_codesTold_135 rfl 1 rfl ?_
    refine x_aload_n dX12_codesTold_136 rfl 0 rfl ?_
    refine x_getI fr_X12_324 dX12_codesTold_137 c1 rfl ?_
    obtain ⟨n6, c5, H⟩ := ka_o H
    obtain ⟨c7, H⟩ := chk_o H
    refine x_iast dX12_codesTold_140 c5 (inb_in.mp c7) ?_
    obtain ⟨-, rfl⟩ := so_1 H
    exact x_vret dX12_codesTold_141 rfl
  · replace H := ite_m H c2
    refine x_aload_n dX12_codesTold_100 rfl 0 rfl ?_
    obtain ⟨a8, c9, H⟩ := kr_o H
    refine x_getR fr_X12_112 dX12_codesTold_101 c1 rfl c9 ?_
    refine x_aload_n dX12_codesTold_104 rfl 0 rfl ?_
    refine x_getI fr_X12_324 dX12_codesTold_105 c1 rfl ?_
    refine x_aload_n dX12_codesTold_108 rfl 0 rfl ?_
    obtain ⟨a10, c11, H⟩ := kr_o H
    refine x_getR fr_X12_210 dX12_codesTold_109 c1 rfl c11 ?_
    refine x_iload_n dX12_codesTold_112 rfl 2 rfl ?_
    obtain ⟨n13, c12, H⟩ := ka_o H
    obtain ⟨c14, H⟩ := chk_o H
    refine x_iald dX12_codesTold_113 c12 (inb_in.mp c14) ?_
    obtain ⟨n16, c15, H⟩ := ka_o H
    obtain ⟨c17, H⟩ := chk_o H
    refine x_iast dX12_codesTold_114 c15 (inb_in.mp c17) ?_
    refine x_aload_n dX12_codesTold_115 rfl 0 rfl ?_
    refine x_dup dX12_codesTold_116 rfl ?_
    obtain ⟨v18, ev18, H⟩ := nm_o H
    refine x_getIe fr_X12_324 dX12_codesTold_117 c1 rfl ev18 ?_
    refine x_iconst (v := 1) dX12_codesTold_120 (by decide) ?_
    refine x_iadd dX12_codesTold_121 ?_
    refine x_putI fl_X12_324 dX12_codesTold_122 c1 (fun e => by cases e) rfl ?_
    obtain ⟨v19, ev19, H⟩ := nm_o H
    refine x_iinc (v := v19) (lv' := [(3, .int v19), (0, .ref x0), (1, .int x1)]) dX12_codesTold_125 2 rfl (by decide) ev19 rfl ?_
    refine x_goto (tgt := 92) dX12_codesTold_128 (by decide) ?_
    refine Ex.sub [1, 2, 0] rfl ?_
    exact hk92 H
def f_X12_codesTold_92 : Nat → Nat → Int32 → Int32 → aH → Option (Unit × aH)
  | 0 => fun _ _ _ _ => none
  | n + 1 => b_X12_codesTold_92 (f_X12_codesTold_92 n)
set_option maxRecDepth 100000 in
set_option maxHeartbeats 4000000 in
theorem t_X12_codesTold_92 {Γ : gS} {d : Nat} (hd : 9 ≤ d) (n : Nat) : ∀ {x0 : Nat} {x1 : Int32} {x3 : Int32} {h : aH} {r : Unit} {h' : aH}, f_X12_codesTold_92 n x0 x1 x3 h = some (r, h') → Ex Γ gX12_codesTold d 92 [(0, .ref x0), (1, .int x1), (3, .int x3)] [] h none h' := by
  induction n with
  | zero => intro x0 x1 x3 h r h' H; cases H
  | succ n ih => intro x0 x1 x3 h r h' H; exact tb_X12_codesTold_92 hd ih H
def f_X12_codesTold_72 (x0 : Nat) (x1 : Int32) (h : aH) : Option (Unit × aH) :=
  ko h x0 11 <|
  if (hI h x0 5) = 0 then
    kr (hR h x0 40) fun a22 =>
    ka h a22 .int fun n25 =>
    chk (inb x1 n25 = true) <|
    f_X12_codesTold_92 FU x0 x1 0 (sI h a22 x1.toNatClampNeg (hI h x0 43))
  else
    some ((), h)
set_option maxRecDepth 100000 in
set_option maxHeartbeats 4000000 in
theorem t_X12_codesTold_72 {Γ : gS} {d : Nat} (hd : 9 ≤ d) {x0 : Nat} {x1 : Int32} {h : aH} {r : Unit} {h' : aH} (H : f_X12_codesTold_72 x0 x1 h = some (r, h')) : Ex Γ gX12_codesTold d 72 [(0, .ref x0), (1, .int x1)] [] h none h' := by
  unfold f_X12_codesTold_72 at H
  obtain ⟨d, rfl⟩ : ∃ e, d = e + 1 := ⟨d - 1, by omega⟩
  refine x_aload_n dX12_codesTold_72 rfl 0 rfl ?_
  obtain ⟨c20, H⟩ := ko_o H
  refine x_getI fr_X12_225 dX12_codesTold_73 c20 rfl ?_
  refine x_if_eq (tgt := 80) dX12_codesTold_76 (by decide) (fun c21 => ?_) (fun c21 => ?_)
  · replace H := ite_p H c21
    refine x_aload_n dX12_codesTold_80 rfl 0 rfl ?_
    obtain ⟨a22, c23, H⟩ := kr_o H
    refine x_getR fr_X12_106 dX12_codesTold_81 c20 rfl c23 ?_
    refine x_iload_n dX12_codesTold_84 rfl 1 rfl ?_
    refine x_aload_n dX12_codesTold_85 rfl 0 rfl ?_
    refine x_getI fr_X12_324 dX12_codesTold_86 c20 rfl ?_
    obtain ⟨n25, c24, H⟩ := ka_o H
    obtain ⟨c26, H⟩ := chk_o H
    refine x_iast dX12_codesTold_89 c24 (inb_in.mp c26) ?_
    refine x_iconst (v := 0) dX12_codesTold_90 (by decide) ?_
    refine x_istore_n (lv' := [(3, .int 0), (0, .ref x0), (1, .int x1)]) dX12_codesTold_91 rfl (by decide) rfl rfl ?_
    refine Ex.sub [1, 2, 0] rfl ?_
    exact t_X12_codesTold_92 hd FU H
  · replace H := ite_m H c21
    obtain ⟨-, rfl⟩ := so_1 H
    exact x_vret dX12_codesTold_79 rfl
def f_X12_codesTold_23 (x0 : Nat) (x1 : Int32) (h : aH) : Option (Unit × aH) :=
  ko h x0 11 <|
  if (hI h x0 5) = 0 then
    if x1 = 2 then
      bd (f_X12_qTest x0 (sI (sI (sI (sI (sI h x0 46 x1) x0 92 0) x0 94 0) x0 95 0) x0 96 0)) fun _ h34 =>
      f_X12_codesTold_72 x0 x1 h34
    else
      bd (f_X12_qSums x0 (sI (sI (sI (sI (sI h x0 46 x1) x0 92 0) x0 94 0) x0 95 0) x0 96 0)) fun _ h31 =>
      f_X12_codesTold_72 x0 x1 h31
  else
    some ((), h)
set_option maxRecDepth 100000 in
set_option maxHeartbeats 4000000 in
theorem t_X12_codesTold_23 {Γ : gS} {d : Nat} (hd : 9 ≤ d) {x0 : Nat} {x1 : Int32} {h : aH} {r : Unit} {h' : aH} (H : f_X12_codesTold_23 x0 x1 h = some (r, h')) : Ex Γ gX12_codesTold d 23 [(0, .ref x0), (1, .int x1)] [] h none h' := by
  unfold f_X12_codesTold_23 at H
  obtain ⟨d, rfl⟩ : ∃ e, d = e + 1 := ⟨d - 1, by omega⟩
  refine x_aload_n dX12_codesTold_23 rfl 0 rfl ?_
  obtain ⟨c27, H⟩ := ko_o H
  refine x_getI fr_X12_225 dX12_codesTold_24 c27 rfl ?_
  refine x_if_eq (tgt := 31) dX12_codesTold_27 (by decide) (fun c28 => ?_) (fun c28 => ?_)
  · replace H := ite_p H c28
    refine x_aload_n dX12_codesTold_31 rfl 0 rfl ?_
    refine x_iload_n dX12_codesTold_32 rfl 1 rfl ?_
    refine x_putI fl_X12_283 dX12_codesTold_33 c27 (fun e => by cases e) rfl ?_
    refine x_aload_n dX12_codesTold_36 rfl 0 rfl ?_
    refine x_iconst (v := 0) dX12_codesTold_37 (by decide) ?_
    refine x_putI fl_X12_306 dX12_codesTold_38 c27 (fun e => by cases e) rfl ?_
    refine x_aload_n dX12_codesTold_41 rfl 0 rfl ?_
    refine x_iconst (v := 0) dX12_codesTold_42 (by decide) ?_
    refine x_putI fl_X12_309 dX12_codesTold_43 c27 (fun e => by cases e) rfl ?_
    refine x_aload_n dX12_codesTold_46 rfl 0 rfl ?_
    refine x_iconst (v := 0) dX12_codesTold_47 (by decide) ?_
    refine x_putI fl_X12_312 dX12_codesTold_48 c27 (fun e => by cases e) rfl ?_
    refine x_aload_n dX12_codesTold_51 rfl 0 rfl ?_
    refine x_iconst (v := 0) dX12_codesTold_52 (by decide) ?_
    refine x_putI fl_X12_315 dX12_codesTold_53 c27 (fun e => by cases e) rfl ?_
    refine x_iload_n dX12_codesTold_56 rfl 1 rfl ?_
    refine x_iconst (v := 2) dX12_codesTold_57 (by decide) ?_
    refine x_icmp_ne (tgt := 68) dX12_codesTold_58 (by decide) (fun c29 => ?_) (fun c29 => ?_)
    · replace H := ite_m H c29
      refine x_aload_n dX12_codesTold_68 rfl 0 rfl ?_
      obtain ⟨v30, h31, hc32, H⟩ := bd_o H
      refine x_callVv (As := []) (q := (RX12, TX12, 103)) dX12_codesTold_69 mi_X12_qSums lk_X12_321 im_X12_qSums se_X12_qSums rfl c27 rfl rfl (Nat.le_of_ble_eq_true rfl) (t_X12_qSums (by omega) hc32) ?_
      exact t_X12_codesTold_72 hd H
    · replace H := ite_p H c29
      refine x_aload_n dX12_codesTold_61 rfl 0 rfl ?_
      obtain ⟨v33, h34, hc35, H⟩ := bd_o H
      refine x_callVv (As := []) (q := (RX12, TX12, 103)) dX12_codesTold_62 mi_X12_qTest lk_X12_318 im_X12_qTest se_X12_qTest rfl c27 rfl rfl (Nat.le_of_ble_eq_true rfl) (t_X12_qTest (by omega) hc35) ?_
      refine x_goto (tgt := 72) dX12_codesTold_65 (by decide) ?_
      exact t_X12_codesTold_72 hd H
  · replace H := ite_m H c28
    obtain ⟨-, rfl⟩ := so_1 H
    exact x_vret dX12_codesTold_30 rfl
def f_X12_codesTold (x0 : Nat) (x1 : Int32) (x2 : Int32) (h : aH) : Option (Unit × aH) :=
  ko h x0 11 <|
  if (hI h x0 5) = 0 then
    kr (hR h x0 40) fun a38 =>
    ka h a38 .int fun n41 =>
    chk (inb x1 n41 = true) <|
    if (hI h a38 x1.toNatClampNeg) = (-1) then
      f_X12_codesTold_23 x0 x1 h
    else
      bd (f_X12_fail x0 5 x2 h) fun _ h45 =>
      f_X12_codesTold_23 x0 x1 h45
  else
    f_X12_codesTold_23 x0 x1 h
set_option maxRecDepth 100000 in
set_option maxHeartbeats 4000000 in
theorem t_X12_codesTold {Γ : gS} {d : Nat} (hd : 9 ≤ d) {x0 : Nat} {x1 : Int32} {x2 : Int32} {h : aH} {r : Unit} {h' : aH} (H : f_X12_codesTold x0 x1 x2 h = some (r, h')) : Mx Γ gX12_codesTold d [.ref x0, .int x1, .int x2] h none h' := by
  refine Mx.of (by decide +kernel) (Nat.le_of_ble_eq_true rfl) ?_
  unfold f_X12_codesTold at H
  show Ex Γ gX12_codesTold d 0 [(0, .ref x0), (1, .int x1), (2, .int x2)] [] h none h'
  obtain ⟨d, rfl⟩ : ∃ e, d = e + 1 := ⟨d - 1, by omega⟩
  refine x_aload_n dX12_codesTold_0 rfl 0 rfl ?_
  obtain ⟨c36, H⟩ := ko_o H
  refine x_getI fr_X12_225 dX12_codesTold_1 c36 rfl ?_
  refine x_if_ne (tgt := 23) dX12_codesTold_4 (by decide) (fun c37 => ?_) (fun c37 => ?_)
  · replace H := ite_m H c37
    refine Ex.sub [0, 1] rfl ?_
    exact t_X12_codesTold_23 hd H
  · replace H := ite_p H c37
    refine x_aload_n dX12_codesTold_7 rfl 0 rfl ?_
    obtain ⟨a38, c39, H⟩ := kr_o H
    refine x_getR fr_X12_106 dX12_codesTold_8 c36 rfl c39 ?_
    refine x_iload_n dX12_codesTold_11 rfl 1 rfl ?_
    obtain ⟨n41, c40, H⟩ := ka_o H
    obtain ⟨c42, H⟩ := chk_o H
    refine x_iald dX12_codesTold_12 c40 (inb_in.mp c42) ?_
    refine x_iconst (v := (-1)) dX12_codesTold_13 (by decide) ?_
    refine x_icmp_eq (tgt := 23) dX12_codesTold_14 (by decide) (fun c43 => ?_) (fun c43 => ?_)
    · replace H := ite_p H c43
      refine Ex.sub [0, 1] rfl ?_
      exact t_X12_codesTold_23 hd H
    · replace H := ite_m H c43
      refine x_aload_n dX12_codesTold_17 rfl 0 rfl ?_
      refine x_iconst (v := 5) dX12_codesTold_18 (by decide) ?_
      refine x_iload_n dX12_codesTold_19 rfl 2 rfl ?_
      obtain ⟨v44, h45, hc46, H⟩ := bd_o H
      refine x_callVv (As := [.int 5, .int x2]) (q := (RX12, TX12, 103)) dX12_codesTold_20 mi_X12_fail lk_X12_255 im_X12_fail se_X12_fail rfl c36 rfl rfl (Nat.le_of_ble_eq_true rfl) (t_X12_fail (by omega) hc46) ?_
      refine Ex.sub [0, 1] rfl ?_
      exact t_X12_codesTold_23 hd H
def f_X12_statementTold_94 (x0 : Nat) (h : aH) : Option (Unit × aH) :=
  ko h x0 11 <|
  bd (f_X12_asksSign x0 59 h) fun _ h2 =>
  ko h2 x0 11 <|
  some ((), sI h2 x0 44 ((hI h2 x0 44) + 1))
set_option maxRecDepth 100000 in
set_option maxHeartbeats 4000000 in
theorem t_X12_statementTold_94 {Γ : gS} {d : Nat} (hd : 10 ≤ d) {x0 : Nat} {h : aH} {r : Unit} {h' : aH} (H : f_X12_statementTold_94 x0 h = some (r, h')) : Ex Γ gX12_statementTold d 94 [(0, .ref x0)] [] h none h' := by
  unfold f_X12_statementTold_94 at H
  obtain ⟨d, rfl⟩ : ∃ e, d = e + 1 := ⟨d - 1, by omega⟩
  refine x_aload_n dX12_statementTold_94 rfl 0 rfl ?_
  refine x_bipush (v := 59) dX12_statementTold_95 (by decide) ?_
  obtain ⟨c5, H⟩ := ko_o H
  obtain ⟨v1, h2, hc3, H⟩ := bd_o H
  refine x_callVv (As := [.int 59]) (q := (RX12, TX12, 103)) dX12_statementTold_97 mi_X12_asksSign lk_X12_298 im_X12_asksSign se_X12_asksSign rfl c5 rfl rfl (Nat.le_of_ble_eq_true rfl) (t_X12_asksSign (by omega) hc3) ?_
  refine x_aload_n dX12_statementTold_100 rfl 0 rfl ?_
  refine x_dup dX12_statementTold_101 rfl ?_
  obtain ⟨c4, H⟩ := ko_o H
  refine x_getI fr_X12_327 dX12_statementTold_102 c4 rfl ?_
  refine x_iconst (v := 1) dX12_statementTold_105 (by decide) ?_
  refine x_iadd dX12_statementTold_106 ?_
  refine x_putI fl_X12_327 dX12_statementTold_107 c4 (fun e => by cases e) rfl ?_
  obtain ⟨-, rfl⟩ := so_1 H
  exact x_vret dX12_statementTold_110 rfl
def f_X12_statementTold (x0 : Nat) (h : aH) : Option (Unit × aH) :=
  ko h x0 11 <|
  nm (hI h x0 2) fun (v7 : Int32) =>
  if (hI h x0 44) = 40 then
    bd (f_X12_fail x0 5 v7 h) fun _ h52 =>
    some ((), h52)
  else
    kr (hR h x0 13) fun a9 =>
    bd (f_X12_takes x0 a9 h) fun v11 h12 =>
    if v11 = 0 then
      ko h12 x0 11 <|
      kr (hR h12 x0 15) fun a16 =>
      bd (f_X12_takes x0 a16 h12) fun v18 h19 =>
      if v18 = 0 then
        ko h19 x0 11 <|
        kr (hR h19 x0 16) fun a23 =>
        bd (f_X12_takes x0 a23 h19) fun v25 h26 =>
        if v25 = 0 then
          ko h26 x0 11 <|
          kr (hR h26 x0 17) fun a30 =>
          bd (f_X12_asks x0 a30 h26) fun _ h33 =>
          ko h33 x0 11 <|
          bd (f_X12_codesTold x0 2 v7 h33) fun _ h36 =>
          f_X12_statementTold_94 x0 h36
        else
          ko h26 x0 11 <|
          bd (f_X12_codesTold x0 1 v7 h26) fun _ h40 =>
          f_X12_statementTold_94 x0 h40
      else
        ko h19 x0 11 <|
        bd (f_X12_codesTold x0 0 v7 h19) fun _ h44 =>
        f_X12_statementTold_94 x0 h44
    else
      ko h12 x0 11 <|
      bd (f_X12_shelfTold x0 v7 h12) fun _ h48 =>
      f_X12_statementTold_94 x0 h48
set_option maxRecDepth 100000 in
set_option maxHeartbeats 4000000 in
theorem t_X12_statementTold {Γ : gS} {d : Nat} (hd : 10 ≤ d) {x0 : Nat} {h : aH} {r : Unit} {h' : aH} (H : f_X12_statementTold x0 h = some (r, h')) : Mx Γ gX12_statementTold d [.ref x0] h none h' := by
  refine Mx.of (by decide +kernel) (Nat.le_of_ble_eq_true rfl) ?_
  unfold f_X12_statementTold at H
  show Ex Γ gX12_statementTold d 0 [(0, .ref x0)] [] h none h'
  obtain ⟨d, rfl⟩ : ∃ e, d = e + 1 := ⟨d - 1, by omega⟩
  refine x_aload_n dX12_statementTold_0 rfl 0 rfl ?_
  obtain ⟨c6, H⟩ := ko_o H
  refine x_getI fr_X12_231 dX12_statementTold_1 c6 rfl ?_
  obtain ⟨v7, ev7, H⟩ := nm_o H
  refine x_istore_n (lv' := [(1, .int v7), (0, .ref x0)]) dX12_statementTold_4 rfl (by decide) ev7 rfl ?_
  refine x_aload_n dX12_statementTold_5 rfl 1 rfl ?_
  refine x_getI fr_X12_327 dX12_statementTold_6 c6 rfl ?_
  refine x_bipush (v := 40) dX12_statementTold_9 (by decide) ?_
  refine x_icmp_ne (tgt := 21) dX12_statementTold_11 (by decide) (fun c8 => ?_) (fun c8 => ?_)
  · replace H := ite_m H c8
    refine x_aload_n dX12_statementTold_21 rfl 1 rfl ?_
    refine x_aload_n dX12_statementTold_22 rfl 1 rfl ?_
    obtain ⟨a9, c10, H⟩ := kr_o H
    refine x_getR fr_X12_27 dX12_statementTold_23 c6 rfl c10 ?_
    obtain ⟨v11, h12, hc13, H⟩ := bd_o H
    refine x_callVi (As := [.ref a9]) (q := (RX12, TX12, 103)) dX12_statementTold_26 mi_X12_takes lk_X12_252 im_X12_takes se_X12_takes rfl c6 rfl rfl (Nat.le_of_ble_eq_true rfl) (t_X12_takes (by omega) hc13) ?_
    refine x_if_eq (tgt := 40) dX12_statementTold_29 (by decide) (fun c14 => ?_) (fun c14 => ?_)
    · replace H := ite_p H c14
      refine x_aload_n dX12_statementTold_40 rfl 1 rfl ?_
      refine x_aload_n dX12_statementTold_41 rfl 1 rfl ?_
      obtain ⟨c15, H⟩ := ko_o H
      obtain ⟨a16, c17, H⟩ := kr_o H
      refine x_getR fr_X12_33 dX12_statementTold_42 c15 rfl c17 ?_
      obtain ⟨v18, h19, hc20, H⟩ := bd_o H
      refine x_callVi (As := [.ref a16]) (q := (RX12, TX12, 103)) dX12_statementTold_45 mi_X12_takes lk_X12_252 im_X12_takes se_X12_takes rfl c15 rfl rfl (Nat.le_of_ble_eq_true rfl) (t_X12_takes (by omega) hc20) ?_
      refine x_if_eq (tgt := 60) dX12_statementTold_48 (by decide) (fun c21 => ?_) (fun c21 => ?_)
      · replace H := ite_p H c21
        refine x_aload_n dX12_statementTold_60 rfl 1 rfl ?_
        refine x_aload_n dX12_statementTold_61 rfl 1 rfl ?_
        obtain ⟨c22, H⟩ := ko_o H
        obtain ⟨a23, c24, H⟩ := kr_o H
        refine x_getR fr_X12_36 dX12_statementTold_62 c22 rfl c24 ?_
        obtain ⟨v25, h26, hc27, H⟩ := bd_o H
        refine x_callVi (As := [.ref a23]) (q := (RX12, TX12, 103)) dX12_statementTold_65 mi_X12_takes lk_X12_252 im_X12_takes se_X12_takes rfl c22 rfl rfl (Nat.le_of_ble_eq_true rfl) (t_X12_takes (by omega) hc27) ?_
        refine x_if_eq (tgt := 80) dX12_statementTold_68 (by decide) (fun c28 => ?_) (fun c28 => ?_)
        · replace H := ite_p H c28
          refine x_aload_n dX12_statementTold_80 rfl 1 rfl ?_
          refine x_aload_n dX12_statementTold_81 rfl 1 rfl ?_
          obtain ⟨c29, H⟩ := ko_o H
          obtain ⟨a30, c31, H⟩ := kr_o H
          refine x_getR fr_X12_39 dX12_statementTold_82 c29 rfl c31 ?_
          obtain ⟨v32, h33, hc34, H⟩ := bd_o H
          refine x_callVv (As := [.ref a30]) (q := (RX12, TX12, 103)) dX12_statementTold_85 mi_X12_asks lk_X12_290 im_X12_asks se_X12_asks rfl c29 rfl rfl (Nat.le_of_ble_eq_true rfl) (t_X12_asks (by omega) hc34) ?_
          refine x_aload_n dX12_statementTold_88 rfl 1 rfl ?_
          refine x_iconst (v := 2) dX12_statementTold_89 (by decide) ?_
          refine x_iload_n dX12_statementTold_90 rfl 0 rfl ?_
          obtain ⟨c38, H⟩ := ko_o H
          obtain ⟨v35, h36, hc37, H⟩ := bd_o H
          refine x_callVv (As := [.int 2, .int v7]) (q := (RX12, TX12, 103)) dX12_statementTold_91 mi_X12_codesTold lk_X12_333 im_X12_codesTold se_X12_codesTold rfl c38 rfl rfl (Nat.le_of_ble_eq_true rfl) (t_X12_codesTold (by omega) hc37) ?_
          refine Ex.sub [1] rfl ?_
          exact t_X12_statementTold_94 hd H
        · replace H := ite_m H c28
          refine x_aload_n dX12_statementTold_71 rfl 1 rfl ?_
          refine x_iconst (v := 1) dX12_statementTold_72 (by decide) ?_
          refine x_iload_n dX12_statementTold_73 rfl 0 rfl ?_
          obtain ⟨c42, H⟩ := ko_o H
          obtain ⟨v39, h40, hc41, H⟩ := bd_o H
          refine x_callVv (As := [.int 1, .int v7]) (q := (RX12, TX12, 103)) dX12_statementTold_74 mi_X12_codesTold lk_X12_333 im_X12_codesTold se_X12_codesTold rfl c42 rfl rfl (Nat.le_of_ble_eq_true rfl) (t_X12_codesTold (by omega) hc41) ?_
          refine x_goto (tgt := 94) dX12_statementTold_77 (by decide) ?_
          refine Ex.sub [1] rfl ?_
          exact t_X12_statementTold_94 hd H
      · replace H := ite_m H c21
        refine x_aload_n dX12_statementTold_51 rfl 1 rfl ?_
        refine x_iconst (v := 0) dX12_statementTold_52 (by decide) ?_
        refine x_iload_n dX12_statementTold_53 rfl 0 rfl ?_
        obtain ⟨c46, H⟩ := ko_o H
        obtain ⟨v43, h44, hc45, H⟩ := bd_o H
        refine x_callVv (As := [.int 0, .int v7]) (q := (RX12, TX12, 103)) dX12_statementTold_54 mi_X12_codesTold lk_X12_333 im_X12_codesTold se_X12_codesTold rfl c46 rfl rfl (Nat.le_of_ble_eq_true rfl) (t_X12_codesTold (by omega) hc45) ?_
        refine x_goto (tgt := 94) dX12_statementTold_57 (by decide) ?_
        refine Ex.sub [1] rfl ?_
        exact t_X12_statementTold_94 hd H
    · replace H := ite_m H c14
      refine x_aload_n dX12_statementTold_32 rfl 1 rfl ?_
      refine x_iload_n dX12_statementTold_33 rfl 0 rfl ?_
      obtain ⟨c50, H⟩ := ko_o H
      obtain ⟨v47, h48, hc49, H⟩ := bd_o H
      refine x_callVv (As := [.int v7]) (q := (RX12, TX12, 103)) dX12_statementTold_34 mi_X12_shelfTold lk_X12_330 im_X12_shelfTold se_X12_shelfTold rfl c50 rfl rfl (Nat.le_of_ble_eq_true rfl) (t_X12_shelfTold (by omega) hc49) ?_
      refine x_goto (tgt := 94) dX12_statementTold_37 (by decide) ?_
      refine Ex.sub [1] rfl ?_
      exact t_X12_statementTold_94 hd H
  · replace H := ite_p H c8
    refine x_aload_n dX12_statementTold_14 rfl 1 rfl ?_
    refine x_iconst (v := 5) dX12_statementTold_15 (by decide) ?_
    refine x_iload_n dX12_statementTold_16 rfl 0 rfl ?_
    obtain ⟨v51, h52, hc53, H⟩ := bd_o H
    refine x_callVv (As := [.int 5, .int v7]) (q := (RX12, TX12, 103)) dX12_statementTold_17 mi_X12_fail lk_X12_255 im_X12_fail se_X12_fail rfl c6 rfl rfl (Nat.le_of_ble_eq_true rfl) (t_X12_fail (by omega) hc53) ?_
    obtain ⟨-, rfl⟩ := so_1 H
    exact x_vret dX12_statementTold_20 rfl
def f_X12_refuses (x0 : Nat) (x1 : Int32) (h : aH) : Option (Int32 × aH) :=
  ko h x0 11 <|
  kr (hR h x0 9) fun a2 =>
  ka h a2 .int fun n5 =>
  chk (inb x1 n5 = true) <|
  some ((-1), sI h a2 x1.toNatClampNeg ((hI h a2 x1.toNatClampNeg) + 1))
set_option maxRecDepth 100000 in
set_option maxHeartbeats 4000000 in
theorem t_X12_refuses {Γ : gS} {d : Nat} (hd : 0 ≤ d) {x0 : Nat} {x1 : Int32} {h : aH} {r : Int32} {h' : aH} (H : f_X12_refuses x0 x1 h = some (r, h')) : Mx Γ gX12_refuses d [.ref x0, .int x1] h (some (.int r)) h' := by
  refine Mx.of (by decide +kernel) (Nat.le_of_ble_eq_true rfl) ?_
  unfold f_X12_refuses at H
  show Ex Γ gX12_refuses d 0 [(0, .ref x0), (1, .int x1)] [] h (some (.int r)) h'
  refine x_aload_n dX12_refuses_0 rfl 0 rfl ?_
  obtain ⟨c1, H⟩ := ko_o H
  obtain ⟨a2, c3, H⟩ := kr_o H
  refine x_getR fr_X12_17 dX12_refuses_1 c1 rfl c3 ?_
  refine x_iload_n dX12_refuses_4 rfl 1 rfl ?_
  refine x_dup2 dX12_refuses_5 rfl rfl ?_
  obtain ⟨n5, c4, H⟩ := ka_o H
  obtain ⟨c6, H⟩ := chk_o H
  refine x_iald dX12_refuses_6 c4 (inb_in.mp c6) ?_
  refine x_iconst (v := 1) dX12_refuses_7 (by decide) ?_
  refine x_iadd dX12_refuses_8 ?_
  refine x_iast dX12_refuses_9 c4 (inb_in.mp c6) ?_
  refine x_iconst (v := (-1)) dX12_refuses_10 (by decide) ?_
  obtain ⟨rfl, rfl⟩ := so_1 H
  exact x_iret dX12_refuses_11 rfl rfl
def b_X12_encodesBy_12 (k12 : Nat → Int32 → Int32 → Int32 → aH → Option (Unit × aH)) (x0 : Nat) (x2 : Int32) (x3 : Int32) (x4 : Int32) (h : aH) : Option (Unit × aH) :=
  ko h x0 11 <|
  if (((((x2 + x3) + (1 <<< ((hI h x0 52) &&& 31))) - 1) >>> ((hI h x0 52) &&& 31)) - (x2 >>> ((hI h x0 52) &&& 31))) ≤ x4 then
    nm (hI (sI h x0 53 ((x2 >>> ((hI h x0 52) &&& 31)) <<< ((hI h x0 52) &&& 31))) x0 52) fun (v3 : Int32) =>
    nm (hI (sI h x0 53 ((x2 >>> ((hI h x0 52) &&& 31)) <<< ((hI h x0 52) &&& 31))) x0 52) fun (v4 : Int32) =>
    nm (hI (sI h x0 53 ((x2 >>> ((hI h x0 52) &&& 31)) <<< ((hI h x0 52) &&& 31))) x0 52) fun (v5 : Int32) =>
    some ((), sI (sI h x0 53 ((x2 >>> ((hI h x0 52) &&& 31)) <<< ((hI h x0 52) &&& 31))) x0 54 (((((x2 + x3) + (1 <<< (v3 &&& 31))) - 1) >>> (v4 &&& 31)) <<< (v5 &&& 31)))
  else
    k12 x0 x2 x3 x4 (sI h x0 52 ((hI h x0 52) + 1))
set_option maxRecDepth 100000 in
set_option maxHeartbeats 4000000 in
theorem tb_X12_encodesBy_12 {Γ : gS} {d : Nat} (hd : 0 ≤ d) {k12 : Nat → Int32 → Int32 → Int32 → aH → Option (Unit × aH)} (hk12 : ∀ {x0 : Nat} {x2 : Int32} {x3 : Int32} {x4 : Int32} {h : aH} {r : Unit} {h' : aH}, k12 x0 x2 x3 x4 h = some (r, h') → Ex Γ gX12_encodesBy d 12 [(0, .ref x0), (2, .int x2), (3, .int x3), (4, .int x4)] [] h none h') {x0 : Nat} {x2 : Int32} {x3 : Int32} {x4 : Int32} {h : aH} {r : Unit} {h' : aH} (H : b_X12_encodesBy_12 k12 x0 x2 x3 x4 h = some (r, h')) : Ex Γ gX12_encodesBy d 12 [(0, .ref x0), (2, .int x2), (3, .int x3), (4, .int x4)] [] h none h' := by
  unfold b_X12_encodesBy_12 at H
  refine x_iload_n dX12_encodesBy_12 rfl 1 rfl ?_
  refine x_iload_n dX12_encodesBy_13 rfl 2 rfl ?_
  refine x_iadd dX12_encodesBy_14 ?_
  refine x_iconst (v := 1) dX12_encodesBy_15 (by decide) ?_
  refine x_aload_n dX12_encodesBy_16 rfl 0 rfl ?_
  obtain ⟨c1, H⟩ := ko_o H
  refine x_getI fr_X12_387 dX12_encodesBy_17 c1 rfl ?_
  refine x_ishl dX12_encodesBy_20 ?_
  refine x_iadd dX12_encodesBy_21 ?_
  refine x_iconst (v := 1) dX12_encodesBy_22 (by decide) ?_
  refine x_isub dX12_encodesBy_23 ?_
  refine x_aload_n dX12_encodesBy_24 rfl 0 rfl ?_
  refine x_getI fr_X12_387 dX12_encodesBy_25 c1 rfl ?_
  refine x_ishr dX12_encodesBy_28 ?_
  refine x_iload_n dX12_encodesBy_29 rfl 1 rfl ?_
  refine x_aload_n dX12_encodesBy_30 rfl 0 rfl ?_
  refine x_getI fr_X12_387 dX12_encodesBy_31 c1 rfl ?_
  refine x_ishr dX12_encodesBy_34 ?_
  refine x_isub dX12_encodesBy_35 ?_
  refine x_iload dX12_encodesBy_36 3 rfl ?_
  refine x_icmp_le (tgt := 54) dX12_encodesBy_38 (by decide) (fun c2 => ?_) (fun c2 => ?_)
  · replace H := ite_p H c2
    refine x_aload_n dX12_encodesBy_54 rfl 0 rfl ?_
    refine x_iload_n dX12_encodesBy_55 rfl 1 rfl ?_
    refine x_aload_n dX12_encodesBy_56 rfl 0 rfl ?_
    refine x_getI fr_X12_387 dX12_encodesBy_57 c1 rfl ?_
    refine x_ishr dX12_encodesBy_60 ?_
    refine x_aload_n dX12_encodesBy_61 rfl 0 rfl ?_
    refine x_getI fr_X12_387 dX12_encodesBy_62 c1 rfl ?_
    refine x_ishl dX12_encodesBy_65 ?_
    refine x_putI fl_X12_390 dX12_encodesBy_66 c1 (fun e => by cases e) rfl ?_
    refine x_aload_n dX12_encodesBy_69 rfl 0 rfl ?_
    refine x_iload_n dX12_encodesBy_70 rfl 1 rfl ?_
    refine x_iload_n dX12_encodesBy_71 rfl 2 rfl ?_
    refine x_iadd dX12_encodesBy_72 ?_
    refine x_iconst (v := 1) dX12_encodesBy_73 (by decide) ?_
    refine x_aload_n dX12_encodesBy_74 rfl 0 rfl ?_
    obtain ⟨v3, ev3, H⟩ := nm_o H
    refine x_getIe fr_X12_387 dX12_encodesBy_75 c1 rfl ev3 ?_
    refine x_ishl dX12_encodesBy_78 ?_
    refine x_iadd dX12_encodesBy_79 ?_
    refine x_iconst (v := 1) dX12_encodesBy_80 (by decide) ?_
    refine x_isub dX12_encodesBy_81 ?_
    refine x_aload_n dX12_encodesBy_82 rfl 0 rfl ?_
    obtain ⟨v4, ev4, H⟩ := nm_o H
    refine x_getIe fr_X12_387 dX12_encodesBy_83 c1 rfl ev4 ?_
    refine x_ishr dX12_encodesBy_86 ?_
    refine x_aload_n dX12_encodesBy_87 rfl 0 rfl ?_
    obtain ⟨v5, ev5, H⟩ := nm_o H
    refine x_getIe fr_X12_387 dX12_encodesBy_88 c1 rfl ev5 ?_
    refine x_ishl dX12_encodesBy_91 ?_
    refine x_putI fl_X12_393 dX12_encodesBy_92 c1 (fun e => by cases e) rfl ?_
    obtain ⟨-, rfl⟩ := so_1 H
    exact x_vret dX12_encodesBy_95 rfl
  · replace H := ite_m H c2
    refine x_aload_n dX12_encodesBy_41 rfl 0 rfl ?_
    refine x_dup dX12_encodesBy_42 rfl ?_
    refine x_getI fr_X12_387 dX12_encodesBy_43 c1 rfl ?_
    refine x_iconst (v := 1) dX12_encodesBy_46 (by decide) ?_
    refine x_iadd dX12_encodesBy_47 ?_
    refine x_putI fl_X12_387 dX12_encodesBy_48 c1 (fun e => by cases e) rfl ?_
    refine x_goto (tgt := 12) dX12_encodesBy_51 (by decide) ?_
    exact hk12 H
def f_X12_encodesBy_12 : Nat → Nat → Int32 → Int32 → Int32 → aH → Option (Unit × aH)
  | 0 => fun _ _ _ _ _ => none
  | n + 1 => b_X12_encodesBy_12 (f_X12_encodesBy_12 n)
set_option maxRecDepth 100000 in
set_option maxHeartbeats 4000000 in
theorem t_X12_encodesBy_12 {Γ : gS} {d : Nat} (hd : 0 ≤ d) (n : Nat) : ∀ {x0 : Nat} {x2 : Int32} {x3 : Int32} {x4 : Int32} {h : aH} {r : Unit} {h' : aH}, f_X12_encodesBy_12 n x0 x2 x3 x4 h = some (r, h') → Ex Γ gX12_encodesBy d 12 [(0, .ref x0), (2, .int x2), (3, .int x3), (4, .int x4)] [] h none h' := by
  induction n with
  | zero => intro x0 x2 x3 x4 h r h' H; cases H
  | succ n ih => intro x0 x2 x3 x4 h r h' H; exact tb_X12_encodesBy_12 hd ih H
def f_X12_encodesBy (x0 : Nat) (x1 : Int32) (x2 : Int32) (x3 : Int32) (h : aH) : Option (Unit × aH) :=
  nm (1 <<< ((x1 - 1) &&& 31)) fun (v6 : Int32) =>
  ko h x0 11 <|
  f_X12_encodesBy_12 FU x0 x2 x3 v6 (sI h x0 52 0)
set_option maxRecDepth 100000 in
set_option maxHeartbeats 4000000 in
theorem t_X12_encodesBy {Γ : gS} {d : Nat} (hd : 0 ≤ d) {x0 : Nat} {x1 : Int32} {x2 : Int32} {x3 : Int32} {h : aH} {r : Unit} {h' : aH} (H : f_X12_encodesBy x0 x1 x2 x3 h = some (r, h')) : Mx Γ gX12_encodesBy d [.ref x0, .int x1, .int x2, .int x3] h none h' := by
  refine Mx.of (by decide +kernel) (Nat.le_of_ble_eq_true rfl) ?_
  unfold f_X12_encodesBy at H
  show Ex Γ gX12_encodesBy d 0 [(0, .ref x0), (1, .int x1), (2, .int x2), (3, .int x3)] [] h none h'
  refine x_iconst (v := 1) dX12_encodesBy_0 (by decide) ?_
  refine x_iload_n dX12_encodesBy_1 rfl 1 rfl ?_
  refine x_iconst (v := 1) dX12_encodesBy_2 (by decide) ?_
  refine x_isub dX12_encodesBy_3 ?_
  refine x_ishl dX12_encodesBy_4 ?_
  obtain ⟨v6, ev6, H⟩ := nm_o H
  refine x_istore (lv' := [(4, .int v6), (0, .ref x0), (1, .int x1), (2, .int x2), (3, .int x3)]) dX12_encodesBy_5 (by decide) ev6 rfl ?_
  refine x_aload_n dX12_encodesBy_7 rfl 1 rfl ?_
  refine x_iconst (v := 0) dX12_encodesBy_8 (by decide) ?_
  obtain ⟨c7, H⟩ := ko_o H
  refine x_putI fl_X12_387 dX12_encodesBy_9 c7 (fun e => by cases e) rfl ?_
  refine Ex.sub [1, 3, 4, 0] rfl ?_
  exact t_X12_encodesBy_12 hd FU H
def f_X12_mantissa (x0 : Nat) (h : aH) : Option (Int32 × aH) :=
  ko h x0 11 <|
  kr (hR h x0 37) fun a2 =>
  ka h a2 .int fun n5 =>
  chk (inb 4 n5 = true) <|
  some (hI h a2 (4 : Int32).toNatClampNeg, h)
set_option maxRecDepth 100000 in
set_option maxHeartbeats 4000000 in
theorem t_X12_mantissa {Γ : gS} {d : Nat} (hd : 0 ≤ d) {x0 : Nat} {h : aH} {r : Int32} {h' : aH} (H : f_X12_mantissa x0 h = some (r, h')) : Mx Γ gX12_mantissa d [.ref x0] h (some (.int r)) h' := by
  refine Mx.of (by decide +kernel) (Nat.le_of_ble_eq_true rfl) ?_
  unfold f_X12_mantissa at H
  show Ex Γ gX12_mantissa d 0 [(0, .ref x0)] [] h (some (.int r)) h'
  refine x_aload_n dX12_mantissa_0 rfl 0 rfl ?_
  obtain ⟨c1, H⟩ := ko_o H
  obtain ⟨a2, c3, H⟩ := kr_o H
  refine x_getR fr_X12_96 dX12_mantissa_1 c1 rfl c3 ?_
  refine x_iconst (v := 4) dX12_mantissa_4 (by decide) ?_
  obtain ⟨n5, c4, H⟩ := ka_o H
  obtain ⟨c6, H⟩ := chk_o H
  refine x_iald dX12_mantissa_5 c4 (inb_in.mp c6) ?_
  obtain ⟨rfl, rfl⟩ := so_1 H
  exact x_iret dX12_mantissa_6 rfl rfl
def f_X12_encodes (x0 : Nat) (x1 : Int32) (x2 : Int32) (h : aH) : Option (Unit × aH) :=
  ko h x0 11 <|
  bd (f_X12_mantissa x0 h) fun v1 h2 =>
  ko h2 x0 11 <|
  bd (f_X12_encodesBy x0 v1 x1 x2 h2) fun _ h5 =>
  some ((), h5)
set_option maxRecDepth 100000 in
set_option maxHeartbeats 4000000 in
theorem t_X12_encodes {Γ : gS} {d : Nat} (hd : 1 ≤ d) {x0 : Nat} {x1 : Int32} {x2 : Int32} {h : aH} {r : Unit} {h' : aH} (H : f_X12_encodes x0 x1 x2 h = some (r, h')) : Mx Γ gX12_encodes d [.ref x0, .int x1, .int x2] h none h' := by
  refine Mx.of (by decide +kernel) (Nat.le_of_ble_eq_true rfl) ?_
  unfold f_X12_encodes at H
  show Ex Γ gX12_encodes d 0 [(0, .ref x0), (1, .int x1), (2, .int x2)] [] h none h'
  obtain ⟨d, rfl⟩ : ∃ e, d = e + 1 := ⟨d - 1, by omega⟩
  refine x_aload_n dX12_encodes_0 rfl 0 rfl ?_
  refine x_aload_n dX12_encodes_1 rfl 0 rfl ?_
  obtain ⟨c8, H⟩ := ko_o H
  obtain ⟨v1, h2, hc3, H⟩ := bd_o H
  refine x_callVi (As := []) (q := (RX12, TX12, 103)) dX12_encodes_2 mi_X12_mantissa lk_X12_396 im_X12_mantissa se_X12_mantissa rfl c8 rfl rfl (Nat.le_of_ble_eq_true rfl) (t_X12_mantissa (by omega) hc3) ?_
  refine x_iload_n dX12_encodes_5 rfl 1 rfl ?_
  refine x_iload_n dX12_encodes_6 rfl 2 rfl ?_
  obtain ⟨c7, H⟩ := ko_o H
  obtain ⟨v4, h5, hc6, H⟩ := bd_o H
  refine x_callVv (As := [.int v1, .int x1, .int x2]) (q := (RX12, TX12, 103)) dX12_encodes_7 mi_X12_encodesBy lk_X12_399 im_X12_encodesBy se_X12_encodesBy rfl c7 rfl rfl (Nat.le_of_ble_eq_true rfl) (t_X12_encodesBy (by omega) hc6) ?_
  obtain ⟨-, rfl⟩ := so_1 H
  exact x_vret dX12_encodes_10 rfl
def f_X12_modulo (x0 : Nat) (x1 : Int32) (h : aH) : Option (Int32 × aH) :=
  ko h x0 11 <|
  bd (f_X12_mantissa x0 h) fun v1 h2 =>
  some (x1 &&& ((1 <<< (v1 &&& 31)) - 1), h2)
set_option maxRecDepth 100000 in
set_option maxHeartbeats 4000000 in
theorem t_X12_modulo {Γ : gS} {d : Nat} (hd : 1 ≤ d) {x0 : Nat} {x1 : Int32} {h : aH} {r : Int32} {h' : aH} (H : f_X12_modulo x0 x1 h = some (r, h')) : Mx Γ gX12_modulo d [.ref x0, .int x1] h (some (.int r)) h' := by
  refine Mx.of (by decide +kernel) (Nat.le_of_ble_eq_true rfl) ?_
  unfold f_X12_modulo at H
  show Ex Γ gX12_modulo d 0 [(0, .ref x0), (1, .int x1)] [] h (some (.int r)) h'
  obtain ⟨d, rfl⟩ : ∃ e, d = e + 1 := ⟨d - 1, by omega⟩
  refine x_iload_n dX12_modulo_0 rfl 1 rfl ?_
  refine x_iconst (v := 1) dX12_modulo_1 (by decide) ?_
  refine x_aload_n dX12_modulo_2 rfl 0 rfl ?_
  obtain ⟨c4, H⟩ := ko_o H
  obtain ⟨v1, h2, hc3, H⟩ := bd_o H
  refine x_callVi (As := []) (q := (RX12, TX12, 103)) dX12_modulo_3 mi_X12_mantissa lk_X12_396 im_X12_mantissa se_X12_mantissa rfl c4 rfl rfl (Nat.le_of_ble_eq_true rfl) (t_X12_mantissa (by omega) hc3) ?_
  refine x_ishl dX12_modulo_6 ?_
  refine x_iconst (v := 1) dX12_modulo_7 (by decide) ?_
  refine x_isub dX12_modulo_8 ?_
  refine x_iand dX12_modulo_9 ?_
  obtain ⟨rfl, rfl⟩ := so_1 H
  exact x_iret dX12_modulo_10 rfl rfl
def f_X12_laysBounds (x0 : Nat) (x1 : Int32) (h : aH) : Option (Unit × aH) :=
  ko h x0 11 <|
  kr (hR h x0 47) fun a2 =>
  ka h a2 .int fun n5 =>
  chk (inb (x1 + 2) n5 = true) <|
  nm (hI (sI h a2 (x1 + 2 : Int32).toNatClampNeg (hI h x0 52)) x0 53) fun (v7 : Int32) =>
  nm (hI (sI h a2 (x1 + 2 : Int32).toNatClampNeg (hI h x0 52)) x0 52) fun (v8 : Int32) =>
  bd (f_X12_modulo x0 (v7 >>> (v8 &&& 31)) (sI h a2 (x1 + 2 : Int32).toNatClampNeg (hI h x0 52))) fun v9 h10 =>
  ka h10 a2 .int fun n13 =>
  chk (inb (x1 + 3) n13 = true) <|
  ko h10 x0 11 <|
  kr (hR h10 x0 47) fun a16 =>
  nm (hI (sI h10 a2 (x1 + 3 : Int32).toNatClampNeg v9) x0 54) fun (v18 : Int32) =>
  nm (hI (sI h10 a2 (x1 + 3 : Int32).toNatClampNeg v9) x0 52) fun (v19 : Int32) =>
  bd (f_X12_modulo x0 (v18 >>> (v19 &&& 31)) (sI h10 a2 (x1 + 3 : Int32).toNatClampNeg v9)) fun v20 h21 =>
  ka h21 a16 .int fun n24 =>
  chk (inb (x1 + 4) n24 = true) <|
  some ((), sI h21 a16 (x1 + 4 : Int32).toNatClampNeg v20)
set_option maxRecDepth 100000 in
set_option maxHeartbeats 4000000 in
theorem t_X12_laysBounds {Γ : gS} {d : Nat} (hd : 2 ≤ d) {x0 : Nat} {x1 : Int32} {h : aH} {r : Unit} {h' : aH} (H : f_X12_laysBounds x0 x1 h = some (r, h')) : Mx Γ gX12_laysBounds d [.ref x0, .int x1] h none h' := by
  refine Mx.of (by decide +kernel) (Nat.le_of_ble_eq_true rfl) ?_
  unfold f_X12_laysBounds at H
  show Ex Γ gX12_laysBounds d 0 [(0, .ref x0), (1, .int x1)] [] h none h'
  obtain ⟨d, rfl⟩ : ∃ e, d = e + 1 := ⟨d - 1, by omega⟩
  refine x_aload_n dX12_laysBounds_0 rfl 0 rfl ?_
  obtain ⟨c1, H⟩ := ko_o H
  obtain ⟨a2, c3, H⟩ := kr_o H
  refine x_getR fr_X12_115 dX12_laysBounds_1 c1 rfl c3 ?_
  refine x_iload_n dX12_laysBounds_4 rfl 1 rfl ?_
  refine x_iconst (v := 2) dX12_laysBounds_5 (by decide) ?_
  refine x_iadd dX12_laysBounds_6 ?_
  refine x_aload_n dX12_laysBounds_7 rfl 0 rfl ?_
  refine x_getI fr_X12_387 dX12_laysBounds_8 c1 rfl ?_
  obtain ⟨n5, c4, H⟩ := ka_o H
  obtain ⟨c6, H⟩ := chk_o H
  refine x_iast dX12_laysBounds_11 c4 (inb_in.mp c6) ?_
  refine x_aload_n dX12_laysBounds_12 rfl 0 rfl ?_
  refine x_getR fr_X12_115 dX12_laysBounds_13 c1 rfl c3 ?_
  refine x_iload_n dX12_laysBounds_16 rfl 1 rfl ?_
  refine x_iconst (v := 3) dX12_laysBounds_17 (by decide) ?_
  refine x_iadd dX12_laysBounds_18 ?_
  refine x_aload_n dX12_laysBounds_19 rfl 0 rfl ?_
  refine x_aload_n dX12_laysBounds_20 rfl 0 rfl ?_
  obtain ⟨v7, ev7, H⟩ := nm_o H
  refine x_getIe fr_X12_390 dX12_laysBounds_21 c1 rfl ev7 ?_
  refine x_aload_n dX12_laysBounds_24 rfl 0 rfl ?_
  obtain ⟨v8, ev8, H⟩ := nm_o H
  refine x_getIe fr_X12_387 dX12_laysBounds_25 c1 rfl ev8 ?_
  refine x_ishr dX12_laysBounds_28 ?_
  obtain ⟨v9, h10, hc11, H⟩ := bd_o H
  refine x_callVi (As := [.int (v7 >>> (v8 &&& 31))]) (q := (RX12, TX12, 103)) dX12_laysBounds_29 mi_X12_modulo lk_X12_403 im_X12_modulo se_X12_modulo rfl c1 rfl rfl (Nat.le_of_ble_eq_true rfl) (t_X12_modulo (by omega) hc11) ?_
  obtain ⟨n13, c12, H⟩ := ka_o H
  obtain ⟨c14, H⟩ := chk_o H
  refine x_iast dX12_laysBounds_32 c12 (inb_in.mp c14) ?_
  refine x_aload_n dX12_laysBounds_33 rfl 0 rfl ?_
  obtain ⟨c15, H⟩ := ko_o H
  obtain ⟨a16, c17, H⟩ := kr_o H
  refine x_getR fr_X12_115 dX12_laysBounds_34 c15 rfl c17 ?_
  refine x_iload_n dX12_laysBounds_37 rfl 1 rfl ?_
  refine x_iconst (v := 4) dX12_laysBounds_38 (by decide) ?_
  refine x_iadd dX12_laysBounds_39 ?_
  refine x_aload_n dX12_laysBounds_40 rfl 0 rfl ?_
  refine x_aload_n dX12_laysBounds_41 rfl 0 rfl ?_
  obtain ⟨v18, ev18, H⟩ := nm_o H
  refine x_getIe fr_X12_393 dX12_laysBounds_42 c15 rfl ev18 ?_
  refine x_aload_n dX12_laysBounds_45 rfl 0 rfl ?_
  obtain ⟨v19, ev19, H⟩ := nm_o H
  refine x_getIe fr_X12_387 dX12_laysBounds_46 c15 rfl ev19 ?_
  refine x_ishr dX12_laysBounds_49 ?_
  obtain ⟨v20, h21, hc22, H⟩ := bd_o H
  refine x_callVi (As := [.int (v18 >>> (v19 &&& 31))]) (q := (RX12, TX12, 103)) dX12_laysBounds_50 mi_X12_modulo lk_X12_403 im_X12_modulo se_X12_modulo rfl c15 rfl rfl (Nat.le_of_ble_eq_true rfl) (t_X12_modulo (by omega) hc22) ?_
  obtain ⟨n24, c23, H⟩ := ka_o H
  obtain ⟨c25, H⟩ := chk_o H
  refine x_iast dX12_laysBounds_53 c23 (inb_in.mp c25) ?_
  obtain ⟨-, rfl⟩ := so_1 H
  exact x_vret dX12_laysBounds_54 rfl
def b_X12_stands_170 (k170 : Nat → Int32 → aH → Option (Unit × aH)) (x0 : Nat) (x1 : Int32) (h : aH) : Option (Unit × aH) :=
  if 16 ≤ x1 then
    ko h x0 11 <|
    bd (f_X12_encodes x0 0 4096 h) fun _ h3 =>
    ko h3 x0 11 <|
    bd (f_X12_laysBounds x0 120 h3) fun _ h6 =>
    ko h6 x0 11 <|
    kr (hR h6 x0 47) fun a9 =>
    ka h6 a9 .int fun n12 =>
    chk (inb 120 n12 = true) <|
    chk (inb 125 n12 = true) <|
    some ((), sI (sI (sI (sI h6 a9 (120 : Int32).toNatClampNeg 1) a9 (125 : Int32).toNatClampNeg 7) x0 63 0) x0 58 0)
  else
    ko h x0 11 <|
    kr (hR h x0 47) fun a18 =>
    ka h a18 .int fun n21 =>
    chk (inb (128 + (8 * x1)) n21 = true) <|
    nm (x1 + 1) fun (v23 : Int32) =>
    k170 x0 v23 (sI h a18 (128 + (8 * x1) : Int32).toNatClampNeg (-1))
set_option maxRecDepth 100000 in
set_option maxHeartbeats 4000000 in
theorem tb_X12_stands_170 {Γ : gS} {d : Nat} (hd : 3 ≤ d) {k170 : Nat → Int32 → aH → Option (Unit × aH)} (hk170 : ∀ {x0 : Nat} {x1 : Int32} {h : aH} {r : Unit} {h' : aH}, k170 x0 x1 h = some (r, h') → Ex Γ gX12_stands d 170 [(0, .ref x0), (1, .int x1)] [] h none h') {x0 : Nat} {x1 : Int32} {h : aH} {r : Unit} {h' : aH} (H : b_X12_stands_170 k170 x0 x1 h = some (r, h')) : Ex Γ gX12_stands d 170 [(0, .ref x0), (1, .int x1)] [] h none h' := by
  unfold b_X12_stands_170 at H
  obtain ⟨d, rfl⟩ : ∃ e, d = e + 1 := ⟨d - 1, by omega⟩
  refine x_iload_n dX12_stands_170 rfl 1 rfl ?_
  refine x_bipush (v := 16) dX12_stands_171 (by decide) ?_
  refine x_icmp_ge (tgt := 196) dX12_stands_173 (by decide) (fun c1 => ?_) (fun c1 => ?_)
  · replace H := ite_p H c1
    refine x_aload_n dX12_stands_196 rfl 0 rfl ?_
    refine x_iconst (v := 0) dX12_stands_197 (by decide) ?_
    refine x_sipush (v := 4096) dX12_stands_198 (by decide) ?_
    obtain ⟨c16, H⟩ := ko_o H
    obtain ⟨v2, h3, hc4, H⟩ := bd_o H
    refine x_callVv (As := [.int 0, .int 4096]) (q := (RX12, TX12, 103)) dX12_stands_201 mi_X12_encodes lk_X12_356 im_X12_encodes se_X12_encodes rfl c16 rfl rfl (Nat.le_of_ble_eq_true rfl) (t_X12_encodes (by omega) hc4) ?_
    refine x_aload_n dX12_stands_204 rfl 0 rfl ?_
    refine x_bipush (v := 120) dX12_stands_205 (by decide) ?_
    obtain ⟨c15, H⟩ := ko_o H
    obtain ⟨v5, h6, hc7, H⟩ := bd_o H
    refine x_callVv (As := [.int 120]) (q := (RX12, TX12, 103)) dX12_stands_207 mi_X12_laysBounds lk_X12_359 im_X12_laysBounds se_X12_laysBounds rfl c15 rfl rfl (Nat.le_of_ble_eq_true rfl) (t_X12_laysBounds (by omega) hc7) ?_
    refine x_aload_n dX12_stands_210 rfl 0 rfl ?_
    obtain ⟨c8, H⟩ := ko_o H
    obtain ⟨a9, c10, H⟩ := kr_o H
    refine x_getR fr_X12_115 dX12_stands_211 c8 rfl c10 ?_
    refine x_bipush (v := 120) dX12_stands_214 (by decide) ?_
    refine x_iconst (v := 1) dX12_stands_216 (by decide) ?_
    obtain ⟨n12, c11, H⟩ := ka_o H
    obtain ⟨c13, H⟩ := chk_o H
    refine x_iast dX12_stands_217 c11 (inb_in.mp c13) ?_
    refine x_aload_n dX12_stands_218 rfl 0 rfl ?_
    refine x_getR fr_X12_115 dX12_stands_219 c8 rfl c10 ?_
    refine x_bipush (v := 125) dX12_stands_222 (by decide) ?_
    refine x_bipush (v := 7) dX12_stands_224 (by decide) ?_
    obtain ⟨c14, H⟩ := chk_o H
    refine x_iast dX12_stands_226 c11 (inb_in.mp c14) ?_
    refine x_aload_n dX12_stands_227 rfl 0 rfl ?_
    refine x_iconst (v := 0) dX12_stands_228 (by decide) ?_
    refine x_putI fl_X12_362 dX12_stands_229 c8 (fun e => by cases e) rfl ?_
    refine x_aload_n dX12_stands_232 rfl 0 rfl ?_
    refine x_iconst (v := 0) dX12_stands_233 (by decide) ?_
    refine x_putI fl_X12_365 dX12_stands_234 c8 (fun e => by cases e) rfl ?_
    obtain ⟨-, rfl⟩ := so_1 H
    exact x_vret dX12_stands_237 rfl
  · replace H := ite_m H c1
    refine x_aload_n dX12_stands_176 rfl 0 rfl ?_
    obtain ⟨c17, H⟩ := ko_o H
    obtain ⟨a18, c19, H⟩ := kr_o H
    refine x_getR fr_X12_115 dX12_stands_177 c17 rfl c19 ?_
    refine x_sipush (v := 128) dX12_stands_180 (by decide) ?_
    refine x_bipush (v := 8) dX12_stands_183 (by decide) ?_
    refine x_iload_n dX12_stands_185 rfl 1 rfl ?_
    refine x_imul dX12_stands_186 ?_
    refine x_iadd dX12_stands_187 ?_
    refine x_iconst (v := (-1)) dX12_stands_188 (by decide) ?_
    obtain ⟨n21, c20, H⟩ := ka_o H
    obtain ⟨c22, H⟩ := chk_o H
    refine x_iast dX12_stands_189 c20 (inb_in.mp c22) ?_
    obtain ⟨v23, ev23, H⟩ := nm_o H
    refine x_iinc (v := v23) (lv' := [(1, .int v23), (0, .ref x0)]) dX12_stands_190 1 rfl (by decide) ev23 rfl ?_
    refine x_goto (tgt := 170) dX12_stands_193 (by decide) ?_
    refine Ex.sub [1, 0] rfl ?_
    exact hk170 H
def f_X12_stands_170 : Nat → Nat → Int32 → aH → Option (Unit × aH)
  | 0 => fun _ _ _ => none
  | n + 1 => b_X12_stands_170 (f_X12_stands_170 n)
set_option maxRecDepth 100000 in
set_option maxHeartbeats 4000000 in
theorem t_X12_stands_170 {Γ : gS} {d : Nat} (hd : 3 ≤ d) (n : Nat) : ∀ {x0 : Nat} {x1 : Int32} {h : aH} {r : Unit} {h' : aH}, f_X12_stands_170 n x0 x1 h = some (r, h') → Ex Γ gX12_stands d 170 [(0, .ref x0), (1, .int x1)] [] h none h' := by
  induction n with
  | zero => intro x0 x1 h r h' H; cases H
  | succ n ih => intro x0 x1 h r h' H; exact tb_X12_stands_170 hd ih H
def b_X12_stands_148 (k148 : Nat → Int32 → aH → Option (Unit × aH)) (x0 : Nat) (x1 : Int32) (h : aH) : Option (Unit × aH) :=
  if 1498 ≤ x1 then
    f_X12_stands_170 FU x0 0 h
  else
    ko h x0 11 <|
    kr (hR h x0 47) fun a26 =>
    ka h a26 .int fun n29 =>
    chk (inb x1 n29 = true) <|
    nm (x1 + 1) fun (v31 : Int32) =>
    k148 x0 v31 (sI h a26 x1.toNatClampNeg 0)
set_option maxRecDepth 100000 in
set_option maxHeartbeats 4000000 in
theorem tb_X12_stands_148 {Γ : gS} {d : Nat} (hd : 3 ≤ d) {k148 : Nat → Int32 → aH → Option (Unit × aH)} (hk148 : ∀ {x0 : Nat} {x1 : Int32} {h : aH} {r : Unit} {h' : aH}, k148 x0 x1 h = some (r, h') → Ex Γ gX12_stands d 148 [(0, .ref x0), (1, .int x1)] [] h none h') {x0 : Nat} {x1 : Int32} {h : aH} {r : Unit} {h' : aH} (H : b_X12_stands_148 k148 x0 x1 h = some (r, h')) : Ex Γ gX12_stands d 148 [(0, .ref x0), (1, .int x1)] [] h none h' := by
  unfold b_X12_stands_148 at H
  obtain ⟨d, rfl⟩ : ∃ e, d = e + 1 := ⟨d - 1, by omega⟩
  refine x_iload_n dX12_stands_148 rfl 1 rfl ?_
  refine x_sipush (v := 1498) dX12_stands_149 (by decide) ?_
  refine x_icmp_ge (tgt := 168) dX12_stands_152 (by decide) (fun c24 => ?_) (fun c24 => ?_)
  · replace H := ite_p H c24
    refine x_iconst (v := 0) dX12_stands_168 (by decide) ?_
    refine x_istore_n (lv' := [(1, .int 0), (0, .ref x0)]) dX12_stands_169 rfl (by decide) rfl rfl ?_
    refine Ex.sub [1, 0] rfl ?_
    exact t_X12_stands_170 hd FU H
  · replace H := ite_m H c24
    refine x_aload_n dX12_stands_155 rfl 0 rfl ?_
    obtain ⟨c25, H⟩ := ko_o H
    obtain ⟨a26, c27, H⟩ := kr_o H
    refine x_getR fr_X12_115 dX12_stands_156 c25 rfl c27 ?_
    refine x_iload_n dX12_stands_159 rfl 1 rfl ?_
    refine x_iconst (v := 0) dX12_stands_160 (by decide) ?_
    obtain ⟨n29, c28, H⟩ := ka_o H
    obtain ⟨c30, H⟩ := chk_o H
    refine x_iast dX12_stands_161 c28 (inb_in.mp c30) ?_
    obtain ⟨v31, ev31, H⟩ := nm_o H
    refine x_iinc (v := v31) (lv' := [(1, .int v31), (0, .ref x0)]) dX12_stands_162 1 rfl (by decide) ev31 rfl ?_
    refine x_goto (tgt := 148) dX12_stands_165 (by decide) ?_
    refine Ex.sub [1, 0] rfl ?_
    exact hk148 H
def f_X12_stands_148 : Nat → Nat → Int32 → aH → Option (Unit × aH)
  | 0 => fun _ _ _ => none
  | n + 1 => b_X12_stands_148 (f_X12_stands_148 n)
set_option maxRecDepth 100000 in
set_option maxHeartbeats 4000000 in
theorem t_X12_stands_148 {Γ : gS} {d : Nat} (hd : 3 ≤ d) (n : Nat) : ∀ {x0 : Nat} {x1 : Int32} {h : aH} {r : Unit} {h' : aH}, f_X12_stands_148 n x0 x1 h = some (r, h') → Ex Γ gX12_stands d 148 [(0, .ref x0), (1, .int x1)] [] h none h' := by
  induction n with
  | zero => intro x0 x1 h r h' H; cases H
  | succ n ih => intro x0 x1 h r h' H; exact tb_X12_stands_148 hd ih H
def b_X12_stands_116 (k116 : Nat → Int32 → aH → Option (Unit × aH)) (x0 : Nat) (x1 : Int32) (h : aH) : Option (Unit × aH) :=
  ko h x0 11 <|
  if (hI h x0 43) ≤ x1 then
    f_X12_stands_148 FU x0 0 h
  else
    kr (hR h x0 42) fun a34 =>
    ka h a34 .int fun n37 =>
    chk (inb x1 n37 = true) <|
    chk (inb (1600 + x1) n37 = true) <|
    nm (x1 + 1) fun (v40 : Int32) =>
    k116 x0 v40 (sI h a34 (1600 + x1 : Int32).toNatClampNeg (hI h a34 x1.toNatClampNeg))
set_option maxRecDepth 100000 in
set_option maxHeartbeats 4000000 in
theorem tb_X12_stands_116 {Γ : gS} {d : Nat} (hd : 3 ≤ d) {k116 : Nat → Int32 → aH → Option (Unit × aH)} (hk116 : ∀ {x0 : Nat} {x1 : Int32} {h : aH} {r : Unit} {h' : aH}, k116 x0 x1 h = some (r, h') → Ex Γ gX12_stands d 116 [(0, .ref x0), (1, .int x1)] [] h none h') {x0 : Nat} {x1 : Int32} {h : aH} {r : Unit} {h' : aH} (H : b_X12_stands_116 k116 x0 x1 h = some (r, h')) : Ex Γ gX12_stands d 116 [(0, .ref x0), (1, .int x1)] [] h none h' := by
  unfold b_X12_stands_116 at H
  obtain ⟨d, rfl⟩ : ∃ e, d = e + 1 := ⟨d - 1, by omega⟩
  refine x_iload_n dX12_stands_116 rfl 1 rfl ?_
  refine x_aload_n dX12_stands_117 rfl 0 rfl ?_
  obtain ⟨c32, H⟩ := ko_o H
  refine x_getI fr_X12_324 dX12_stands_118 c32 rfl ?_
  refine x_icmp_ge (tgt := 146) dX12_stands_121 (by decide) (fun c33 => ?_) (fun c33 => ?_)
  · replace H := ite_p H c33
    refine x_iconst (v := 0) dX12_stands_146 (by decide) ?_
    refine x_istore_n (lv' := [(1, .int 0), (0, .ref x0)]) dX12_stands_147 rfl (by decide) rfl rfl ?_
    refine Ex.sub [1, 0] rfl ?_
    exact t_X12_stands_148 hd FU H
  · replace H := ite_m H c33
    refine x_aload_n dX12_stands_124 rfl 0 rfl ?_
    obtain ⟨a34, c35, H⟩ := kr_o H
    refine x_getR fr_X12_112 dX12_stands_125 c32 rfl c35 ?_
    refine x_sipush (v := 1600) dX12_stands_128 (by decide) ?_
    refine x_iload_n dX12_stands_131 rfl 1 rfl ?_
    refine x_iadd dX12_stands_132 ?_
    refine x_aload_n dX12_stands_133 rfl 0 rfl ?_
    refine x_getR fr_X12_112 dX12_stands_134 c32 rfl c35 ?_
    refine x_iload_n dX12_stands_137 rfl 1 rfl ?_
    obtain ⟨n37, c36, H⟩ := ka_o H
    obtain ⟨c38, H⟩ := chk_o H
    refine x_iald dX12_stands_138 c36 (inb_in.mp c38) ?_
    obtain ⟨c39, H⟩ := chk_o H
    refine x_iast dX12_stands_139 c36 (inb_in.mp c39) ?_
    obtain ⟨v40, ev40, H⟩ := nm_o H
    refine x_iinc (v := v40) (lv' := [(1, .int v40), (0, .ref x0)]) dX12_stands_140 1 rfl (by decide) ev40 rfl ?_
    refine x_goto (tgt := 116) dX12_stands_143 (by decide) ?_
    refine Ex.sub [1, 0] rfl ?_
    exact hk116 H
def f_X12_stands_116 : Nat → Nat → Int32 → aH → Option (Unit × aH)
  | 0 => fun _ _ _ => none
  | n + 1 => b_X12_stands_116 (f_X12_stands_116 n)
set_option maxRecDepth 100000 in
set_option maxHeartbeats 4000000 in
theorem t_X12_stands_116 {Γ : gS} {d : Nat} (hd : 3 ≤ d) (n : Nat) : ∀ {x0 : Nat} {x1 : Int32} {h : aH} {r : Unit} {h' : aH}, f_X12_stands_116 n x0 x1 h = some (r, h') → Ex Γ gX12_stands d 116 [(0, .ref x0), (1, .int x1)] [] h none h' := by
  induction n with
  | zero => intro x0 x1 h r h' H; cases H
  | succ n ih => intro x0 x1 h r h' H; exact tb_X12_stands_116 hd ih H
def b_X12_stands_75 (k75 : Nat → Int32 → aH → Option (Unit × aH)) (x0 : Nat) (x1 : Int32) (h : aH) : Option (Unit × aH) :=
  if 4 ≤ x1 then
    f_X12_stands_116 FU x0 0 h
  else
    ko h x0 11 <|
    kr (hR h x0 38) fun a43 =>
    ka h a43 .long fun n46 =>
    chk (inb x1 n46 = true) <|
    chk (inb (4 + x1) n46 = true) <|
    kr (hR h x0 39) fun a49 =>
    ka h a49 .int fun n52 =>
    chk (inb x1 n52 = true) <|
    nm (hI (sL h a43 (4 + x1 : Int32).toNatClampNeg (hL h a43 x1.toNatClampNeg)) a49 x1.toNatClampNeg) fun (v54 : Int32) =>
    chk (inb (4 + x1) n52 = true) <|
    nm (x1 + 1) fun (v56 : Int32) =>
    k75 x0 v56 (sI (sL h a43 (4 + x1 : Int32).toNatClampNeg (hL h a43 x1.toNatClampNeg)) a49 (4 + x1 : Int32).toNatClampNeg v54)
set_option maxRecDepth 100000 in
set_option maxHeartbeats 4000000 in
theorem tb_X12_stands_75 {Γ : gS} {d : Nat} (hd : 3 ≤ d) {k75 : Nat → Int32 → aH → Option (Unit × aH)} (hk75 : ∀ {x0 : Nat} {x1 : Int32} {h : aH} {r : Unit} {h' : aH}, k75 x0 x1 h = some (r, h') → Ex Γ gX12_stands d 75 [(0, .ref x0), (1, .int x1)] [] h none h') {x0 : Nat} {x1 : Int32} {h : aH} {r : Unit} {h' : aH} (H : b_X12_stands_75 k75 x0 x1 h = some (r, h')) : Ex Γ gX12_stands d 75 [(0, .ref x0), (1, .int x1)] [] h none h' := by
  unfold b_X12_stands_75 at H
  obtain ⟨d, rfl⟩ : ∃ e, d = e + 1 := ⟨d - 1, by omega⟩
  refine x_iload_n dX12_stands_75 rfl 1 rfl ?_
  refine x_iconst (v := 4) dX12_stands_76 (by decide) ?_
  refine x_icmp_ge (tgt := 114) dX12_stands_77 (by decide) (fun c41 => ?_) (fun c41 => ?_)
  · replace H := ite_p H c41
    refine x_iconst (v := 0) dX12_stands_114 (by decide) ?_
    refine x_istore_n (lv' := [(1, .int 0), (0, .ref x0)]) dX12_stands_115 rfl (by decide) rfl rfl ?_
    refine Ex.sub [1, 0] rfl ?_
    exact t_X12_stands_116 hd FU H
  · replace H := ite_m H c41
    refine x_aload_n dX12_stands_80 rfl 0 rfl ?_
    obtain ⟨c42, H⟩ := ko_o H
    obtain ⟨a43, c44, H⟩ := kr_o H
    refine x_getR fr_X12_99 dX12_stands_81 c42 rfl c44 ?_
    refine x_iconst (v := 4) dX12_stands_84 (by decide) ?_
    refine x_iload_n dX12_stands_85 rfl 1 rfl ?_
    refine x_iadd dX12_stands_86 ?_
    refine x_aload_n dX12_stands_87 rfl 0 rfl ?_
    refine x_getR fr_X12_99 dX12_stands_88 c42 rfl c44 ?_
    refine x_iload_n dX12_stands_91 rfl 1 rfl ?_
    obtain ⟨n46, c45, H⟩ := ka_o H
    obtain ⟨c47, H⟩ := chk_o H
    refine x_lald dX12_stands_92 c45 (inb_in.mp c47) ?_
    obtain ⟨c48, H⟩ := chk_o H
    refine x_last dX12_stands_93 c45 (inb_in.mp c48) ?_
    refine x_aload_n dX12_stands_94 rfl 0 rfl ?_
    obtain ⟨a49, c50, H⟩ := kr_o H
    refine x_getR fr_X12_103 dX12_stands_95 c42 rfl c50 ?_
    refine x_iconst (v := 4) dX12_stands_98 (by decide) ?_
    refine x_iload_n dX12_stands_99 rfl 1 rfl ?_
    refine x_iadd dX12_stands_100 ?_
    refine x_aload_n dX12_stands_101 rfl 0 rfl ?_
    refine x_getR fr_X12_103 dX12_stands_102 c42 rfl c50 ?_
    refine x_iload_n dX12_stands_105 rfl 1 rfl ?_
    obtain ⟨n52, c51, H⟩ := ka_o H
    obtain ⟨c53, H⟩ := chk_o H
    obtain ⟨v54, ev54, H⟩ := nm_o H
    refine x_ialde dX12_stands_106 c51 (inb_in.mp c53) ev54 ?_
    obtain ⟨c55, H⟩ := chk_o H
    refine x_iast dX12_stands_107 c51 (inb_in.mp c55) ?_
    obtain ⟨v56, ev56, H⟩ := nm_o H
    refine x_iinc (v := v56) (lv' := [(1, .int v56), (0, .ref x0)]) dX12_stands_108 1 rfl (by decide) ev56 rfl ?_
    refine x_goto (tgt := 75) dX12_stands_111 (by decide) ?_
    refine Ex.sub [1, 0] rfl ?_
    exact hk75 H
def f_X12_stands_75 : Nat → Nat → Int32 → aH → Option (Unit × aH)
  | 0 => fun _ _ _ => none
  | n + 1 => b_X12_stands_75 (f_X12_stands_75 n)
set_option maxRecDepth 100000 in
set_option maxHeartbeats 4000000 in
theorem t_X12_stands_75 {Γ : gS} {d : Nat} (hd : 3 ≤ d) (n : Nat) : ∀ {x0 : Nat} {x1 : Int32} {h : aH} {r : Unit} {h' : aH}, f_X12_stands_75 n x0 x1 h = some (r, h') → Ex Γ gX12_stands d 75 [(0, .ref x0), (1, .int x1)] [] h none h' := by
  induction n with
  | zero => intro x0 x1 h r h' H; cases H
  | succ n ih => intro x0 x1 h r h' H; exact tb_X12_stands_75 hd ih H
def b_X12_stands_34 (k34 : Nat → Int32 → aH → Option (Unit × aH)) (x0 : Nat) (x1 : Int32) (h : aH) : Option (Unit × aH) :=
  if 3 ≤ x1 then
    f_X12_stands_75 FU x0 0 h
  else
    ko h x0 11 <|
    kr (hR h x0 40) fun a59 =>
    ka h a59 .int fun n62 =>
    chk (inb x1 n62 = true) <|
    chk (inb (3 + x1) n62 = true) <|
    kr (hR h x0 41) fun a65 =>
    ka h a65 .int fun n68 =>
    chk (inb x1 n68 = true) <|
    nm (hI (sI h a59 (3 + x1 : Int32).toNatClampNeg (hI h a59 x1.toNatClampNeg)) a65 x1.toNatClampNeg) fun (v70 : Int32) =>
    chk (inb (3 + x1) n68 = true) <|
    nm (x1 + 1) fun (v72 : Int32) =>
    k34 x0 v72 (sI (sI h a59 (3 + x1 : Int32).toNatClampNeg (hI h a59 x1.toNatClampNeg)) a65 (3 + x1 : Int32).toNatClampNeg v70)
set_option maxRecDepth 100000 in
set_option maxHeartbeats 4000000 in
theorem tb_X12_stands_34 {Γ : gS} {d : Nat} (hd : 3 ≤ d) {k34 : Nat → Int32 → aH → Option (Unit × aH)} (hk34 : ∀ {x0 : Nat} {x1 : Int32} {h : aH} {r : Unit} {h' : aH}, k34 x0 x1 h = some (r, h') → Ex Γ gX12_stands d 34 [(0, .ref x0), (1, .int x1)] [] h none h') {x0 : Nat} {x1 : Int32} {h : aH} {r : Unit} {h' : aH} (H : b_X12_stands_34 k34 x0 x1 h = some (r, h')) : Ex Γ gX12_stands d 34 [(0, .ref x0), (1, .int x1)] [] h none h' := by
  unfold b_X12_stands_34 at H
  obtain ⟨d, rfl⟩ : ∃ e, d = e + 1 := ⟨d - 1, by omega⟩
  refine x_iload_n dX12_stands_34 rfl 1 rfl ?_
  refine x_iconst (v := 3) dX12_stands_35 (by decide) ?_
  refine x_icmp_ge (tgt := 73) dX12_stands_36 (by decide) (fun c57 => ?_) (fun c57 => ?_)
  · replace H := ite_p H c57
    refine x_iconst (v := 0) dX12_stands_73 (by decide) ?_
    refine x_istore_n (lv' := [(1, .int 0), (0, .ref x0)]) dX12_stands_74 rfl (by decide) rfl rfl ?_
    refine Ex.sub [1, 0] rfl ?_
    exact t_X12_stands_75 hd FU H
  · replace H := ite_m H c57
    refine x_aload_n dX12_stands_39 rfl 0 rfl ?_
    obtain ⟨c58, H⟩ := ko_o H
    obtain ⟨a59, c60, H⟩ := kr_o H
    refine x_getR fr_X12_106 dX12_stands_40 c58 rfl c60 ?_
    refine x_iconst (v := 3) dX12_stands_43 (by decide) ?_
    refine x_iload_n dX12_stands_44 rfl 1 rfl ?_
    refine x_iadd dX12_stands_45 ?_
    refine x_aload_n dX12_stands_46 rfl 0 rfl ?_
    refine x_getR fr_X12_106 dX12_stands_47 c58 rfl c60 ?_
    refine x_iload_n dX12_stands_50 rfl 1 rfl ?_
    obtain ⟨n62, c61, H⟩ := ka_o H
    obtain ⟨c63, H⟩ := chk_o H
    refine x_iald dX12_stands_51 c61 (inb_in.mp c63) ?_
    obtain ⟨c64, H⟩ := chk_o H
    refine x_iast dX12_stands_52 c61 (inb_in.mp c64) ?_
    refine x_aload_n dX12_stands_53 rfl 0 rfl ?_
    obtain ⟨a65, c66, H⟩ := kr_o H
    refine x_getR fr_X12_109 dX12_stands_54 c58 rfl c66 ?_
    refine x_iconst (v := 3) dX12_stands_57 (by decide) ?_
    refine x_iload_n dX12_stands_58 rfl 1 rfl ?_
    refine x_iadd dX12_stands_59 ?_
    refine x_aload_n dX12_stands_60 rfl 0 rfl ?_
    refine x_getR fr_X12_109 dX12_stands_61 c58 rfl c66 ?_
    refine x_iload_n dX12_stands_64 rfl 1 rfl ?_
    obtain ⟨n68, c67, H⟩ := ka_o H
    obtain ⟨c69, H⟩ := chk_o H
    obtain ⟨v70, ev70, H⟩ := nm_o H
    refine x_ialde dX12_stands_65 c67 (inb_in.mp c69) ev70 ?_
    obtain ⟨c71, H⟩ := chk_o H
    refine x_iast dX12_stands_66 c67 (inb_in.mp c71) ?_
    obtain ⟨v72, ev72, H⟩ := nm_o H
    refine x_iinc (v := v72) (lv' := [(1, .int v72), (0, .ref x0)]) dX12_stands_67 1 rfl (by decide) ev72 rfl ?_
    refine x_goto (tgt := 34) dX12_stands_70 (by decide) ?_
    refine Ex.sub [1, 0] rfl ?_
    exact hk34 H
def f_X12_stands_34 : Nat → Nat → Int32 → aH → Option (Unit × aH)
  | 0 => fun _ _ _ => none
  | n + 1 => b_X12_stands_34 (f_X12_stands_34 n)
set_option maxRecDepth 100000 in
set_option maxHeartbeats 4000000 in
theorem t_X12_stands_34 {Γ : gS} {d : Nat} (hd : 3 ≤ d) (n : Nat) : ∀ {x0 : Nat} {x1 : Int32} {h : aH} {r : Unit} {h' : aH}, f_X12_stands_34 n x0 x1 h = some (r, h') → Ex Γ gX12_stands d 34 [(0, .ref x0), (1, .int x1)] [] h none h' := by
  induction n with
  | zero => intro x0 x1 h r h' H; cases H
  | succ n ih => intro x0 x1 h r h' H; exact tb_X12_stands_34 hd ih H
def b_X12_stands_7 (k7 : Nat → Int32 → aH → Option (Unit × aH)) (x0 : Nat) (x1 : Int32) (h : aH) : Option (Unit × aH) :=
  if 3 ≤ x1 then
    f_X12_stands_34 FU x0 0 h
  else
    ko h x0 11 <|
    kr (hR h x0 37) fun a75 =>
    ka h a75 .int fun n78 =>
    chk (inb x1 n78 = true) <|
    chk (inb (3 + x1) n78 = true) <|
    nm (x1 + 1) fun (v81 : Int32) =>
    k7 x0 v81 (sI h a75 (3 + x1 : Int32).toNatClampNeg (hI h a75 x1.toNatClampNeg))
set_option maxRecDepth 100000 in
set_option maxHeartbeats 4000000 in
theorem tb_X12_stands_7 {Γ : gS} {d : Nat} (hd : 3 ≤ d) {k7 : Nat → Int32 → aH → Option (Unit × aH)} (hk7 : ∀ {x0 : Nat} {x1 : Int32} {h : aH} {r : Unit} {h' : aH}, k7 x0 x1 h = some (r, h') → Ex Γ gX12_stands d 7 [(0, .ref x0), (1, .int x1)] [] h none h') {x0 : Nat} {x1 : Int32} {h : aH} {r : Unit} {h' : aH} (H : b_X12_stands_7 k7 x0 x1 h = some (r, h')) : Ex Γ gX12_stands d 7 [(0, .ref x0), (1, .int x1)] [] h none h' := by
  unfold b_X12_stands_7 at H
  obtain ⟨d, rfl⟩ : ∃ e, d = e + 1 := ⟨d - 1, by omega⟩
  refine x_iload_n dX12_stands_7 rfl 1 rfl ?_
  refine x_iconst (v := 3) dX12_stands_8 (by decide) ?_
  refine x_icmp_ge (tgt := 32) dX12_stands_9 (by decide) (fun c73 => ?_) (fun c73 => ?_)
  · replace H := ite_p H c73
    refine x_iconst (v := 0) dX12_stands_32 (by decide) ?_
    refine x_istore_n (lv' := [(1, .int 0), (0, .ref x0)]) dX12_stands_33 rfl (by decide) rfl rfl ?_
    refine Ex.sub [1, 0] rfl ?_
    exact t_X12_stands_34 hd FU H
  · replace H := ite_m H c73
    refine x_aload_n dX12_stands_12 rfl 0 rfl ?_
    obtain ⟨c74, H⟩ := ko_o H
    obtain ⟨a75, c76, H⟩ := kr_o H
    refine x_getR fr_X12_96 dX12_stands_13 c74 rfl c76 ?_
    refine x_iconst (v := 3) dX12_stands_16 (by decide) ?_
    refine x_iload_n dX12_stands_17 rfl 1 rfl ?_
    refine x_iadd dX12_stands_18 ?_
    refine x_aload_n dX12_stands_19 rfl 0 rfl ?_
    refine x_getR fr_X12_96 dX12_stands_20 c74 rfl c76 ?_
    refine x_iload_n dX12_stands_23 rfl 1 rfl ?_
    obtain ⟨n78, c77, H⟩ := ka_o H
    obtain ⟨c79, H⟩ := chk_o H
    refine x_iald dX12_stands_24 c77 (inb_in.mp c79) ?_
    obtain ⟨c80, H⟩ := chk_o H
    refine x_iast dX12_stands_25 c77 (inb_in.mp c80) ?_
    obtain ⟨v81, ev81, H⟩ := nm_o H
    refine x_iinc (v := v81) (lv' := [(1, .int v81), (0, .ref x0)]) dX12_stands_26 1 rfl (by decide) ev81 rfl ?_
    refine x_goto (tgt := 7) dX12_stands_29 (by decide) ?_
    refine Ex.sub [1, 0] rfl ?_
    exact hk7 H
def f_X12_stands_7 : Nat → Nat → Int32 → aH → Option (Unit × aH)
  | 0 => fun _ _ _ => none
  | n + 1 => b_X12_stands_7 (f_X12_stands_7 n)
set_option maxRecDepth 100000 in
set_option maxHeartbeats 4000000 in
theorem t_X12_stands_7 {Γ : gS} {d : Nat} (hd : 3 ≤ d) (n : Nat) : ∀ {x0 : Nat} {x1 : Int32} {h : aH} {r : Unit} {h' : aH}, f_X12_stands_7 n x0 x1 h = some (r, h') → Ex Γ gX12_stands d 7 [(0, .ref x0), (1, .int x1)] [] h none h' := by
  induction n with
  | zero => intro x0 x1 h r h' H; cases H
  | succ n ih => intro x0 x1 h r h' H; exact tb_X12_stands_7 hd ih H
def f_X12_stands (x0 : Nat) (h : aH) : Option (Unit × aH) :=
  ko h x0 11 <|
  f_X12_stands_7 FU x0 0 (sI h x0 45 1)
set_option maxRecDepth 100000 in
set_option maxHeartbeats 4000000 in
theorem t_X12_stands {Γ : gS} {d : Nat} (hd : 3 ≤ d) {x0 : Nat} {h : aH} {r : Unit} {h' : aH} (H : f_X12_stands x0 h = some (r, h')) : Mx Γ gX12_stands d [.ref x0] h none h' := by
  refine Mx.of (by decide +kernel) (Nat.le_of_ble_eq_true rfl) ?_
  unfold f_X12_stands at H
  show Ex Γ gX12_stands d 0 [(0, .ref x0)] [] h none h'
  obtain ⟨d, rfl⟩ : ∃ e, d = e + 1 := ⟨d - 1, by omega⟩
  refine x_aload_n dX12_stands_0 rfl 0 rfl ?_
  refine x_iconst (v := 1) dX12_stands_1 (by decide) ?_
  obtain ⟨c82, H⟩ := ko_o H
  refine x_putZ fl_X12_352 dX12_stands_2 c82 (fun e => by cases e) rfl (by decide) ?_
  refine x_iconst (v := 0) dX12_stands_5 (by decide) ?_
  refine x_istore_n (lv' := [(1, .int 0), (0, .ref x0)]) dX12_stands_6 rfl (by decide) rfl rfl ?_
  refine Ex.sub [1, 0] rfl ?_
  exact t_X12_stands_7 hd FU H
def f_X12_machine_96 (x0 : Nat) (h : aH) : Option (Int32 × aH) :=
  ko h x0 11 <|
  nm (hI (sI h x0 7 (hI h x0 5)) x0 6) fun (v2 : Int32) =>
  nm (hI (sI (sI h x0 7 (hI h x0 5)) x0 8 v2) x0 5) fun (v3 : Int32) =>
  if v3 = 0 then
    bd (f_X12_stands x0 (sI (sI h x0 7 (hI h x0 5)) x0 8 v2)) fun _ h6 =>
    ko h6 x0 11 <|
    some (hI h6 x0 44, h6)
  else
    bd (f_X12_refuses x0 1 (sI (sI h x0 7 (hI h x0 5)) x0 8 v2)) fun v9 h10 =>
    some (v9, h10)
set_option maxRecDepth 100000 in
set_option maxHeartbeats 4000000 in
theorem t_X12_machine_96 {Γ : gS} {d : Nat} (hd : 11 ≤ d) {x0 : Nat} {h : aH} {r : Int32} {h' : aH} (H : f_X12_machine_96 x0 h = some (r, h')) : Ex Γ gX12_machine d 96 [(0, .ref x0)] [] h (some (.int r)) h' := by
  unfold f_X12_machine_96 at H
  obtain ⟨d, rfl⟩ : ∃ e, d = e + 1 := ⟨d - 1, by omega⟩
  refine x_aload_n dX12_machine_96 rfl 0 rfl ?_
  refine x_aload_n dX12_machine_97 rfl 0 rfl ?_
  obtain ⟨c1, H⟩ := ko_o H
  refine x_getI fr_X12_225 dX12_machine_98 c1 rfl ?_
  refine x_putI fl_X12_342 dX12_machine_101 c1 (fun e => by cases e) rfl ?_
  refine x_aload_n dX12_machine_104 rfl 0 rfl ?_
  refine x_aload_n dX12_machine_105 rfl 0 rfl ?_
  obtain ⟨v2, ev2, H⟩ := nm_o H
  refine x_getIe fr_X12_228 dX12_machine_106 c1 rfl ev2 ?_
  refine x_putI fl_X12_13 dX12_machine_109 c1 (fun e => by cases e) rfl ?_
  refine x_aload_n dX12_machine_112 rfl 0 rfl ?_
  obtain ⟨v3, ev3, H⟩ := nm_o H
  refine x_getIe fr_X12_225 dX12_machine_113 c1 rfl ev3 ?_
  refine x_if_eq (tgt := 125) dX12_machine_116 (by decide) (fun c4 => ?_) (fun c4 => ?_)
  · replace H := ite_p H c4
    refine x_aload_n dX12_machine_125 rfl 0 rfl ?_
    obtain ⟨v5, h6, hc7, H⟩ := bd_o H
    refine x_callVv (As := []) (q := (RX12, TX12, 103)) dX12_machine_126 mi_X12_stands lk_X12_349 im_X12_stands se_X12_stands rfl c1 rfl rfl (Nat.le_of_ble_eq_true rfl) (t_X12_stands (by omega) hc7) ?_
    refine x_aload_n dX12_machine_129 rfl 0 rfl ?_
    obtain ⟨c8, H⟩ := ko_o H
    refine x_getI fr_X12_327 dX12_machine_130 c8 rfl ?_
    obtain ⟨rfl, rfl⟩ := so_1 H
    exact x_iret dX12_machine_133 rfl rfl
  · replace H := ite_m H c4
    refine x_aload_n dX12_machine_119 rfl 0 rfl ?_
    refine x_iconst (v := 1) dX12_machine_120 (by decide) ?_
    obtain ⟨v9, h10, hc11, H⟩ := bd_o H
    refine x_callVi (As := [.int 1]) (q := (RX12, TX12, 103)) dX12_machine_121 mi_X12_refuses lk_X12_345 im_X12_refuses se_X12_refuses rfl c1 rfl rfl (Nat.le_of_ble_eq_true rfl) (t_X12_refuses (by omega) hc11) ?_
    obtain ⟨rfl, rfl⟩ := so_1 H
    exact x_iret dX12_machine_124 rfl rfl
def b_X12_machine_74 (k74 : Nat → aH → Option (Int32 × aH)) (x0 : Nat) (h : aH) : Option (Int32 × aH) :=
  ko h x0 11 <|
  if (hI h x0 5) = 0 then
    bd (f_X12_look x0 h) fun v14 h15 =>
    if v14 = (-1) then
      f_X12_machine_96 x0 h15
    else
      ko h15 x0 11 <|
      bd (f_X12_statementTold x0 h15) fun _ h19 =>
      k74 x0 h19
  else
    f_X12_machine_96 x0 h
set_option maxRecDepth 100000 in
set_option maxHeartbeats 4000000 in
theorem tb_X12_machine_74 {Γ : gS} {d : Nat} (hd : 11 ≤ d) {k74 : Nat → aH → Option (Int32 × aH)} (hk74 : ∀ {x0 : Nat} {h : aH} {r : Int32} {h' : aH}, k74 x0 h = some (r, h') → Ex Γ gX12_machine d 74 [(0, .ref x0)] [] h (some (.int r)) h') {x0 : Nat} {h : aH} {r : Int32} {h' : aH} (H : b_X12_machine_74 k74 x0 h = some (r, h')) : Ex Γ gX12_machine d 74 [(0, .ref x0)] [] h (some (.int r)) h' := by
  unfold b_X12_machine_74 at H
  obtain ⟨d, rfl⟩ : ∃ e, d = e + 1 := ⟨d - 1, by omega⟩
  refine x_aload_n dX12_machine_74 rfl 0 rfl ?_
  obtain ⟨c12, H⟩ := ko_o H
  refine x_getI fr_X12_225 dX12_machine_75 c12 rfl ?_
  refine x_if_ne (tgt := 96) dX12_machine_78 (by decide) (fun c13 => ?_) (fun c13 => ?_)
  · replace H := ite_m H c13
    exact t_X12_machine_96 hd H
  · replace H := ite_p H c13
    refine x_aload_n dX12_machine_81 rfl 0 rfl ?_
    obtain ⟨v14, h15, hc16, H⟩ := bd_o H
    refine x_callVi (As := []) (q := (RX12, TX12, 103)) dX12_machine_82 mi_X12_look lk_X12_237 im_X12_look se_X12_look rfl c12 rfl rfl (Nat.le_of_ble_eq_true rfl) (t_X12_look (by omega) hc16) ?_
    refine x_iconst (v := (-1)) dX12_machine_85 (by decide) ?_
    refine x_icmp_eq (tgt := 96) dX12_machine_86 (by decide) (fun c17 => ?_) (fun c17 => ?_)
    · replace H := ite_p H c17
      exact t_X12_machine_96 hd H
    · replace H := ite_m H c17
      refine x_aload_n dX12_machine_89 rfl 0 rfl ?_
      obtain ⟨c21, H⟩ := ko_o H
      obtain ⟨v18, h19, hc20, H⟩ := bd_o H
      refine x_callVv (As := []) (q := (RX12, TX12, 103)) dX12_machine_90 mi_X12_statementTold lk_X12_339 im_X12_statementTold se_X12_statementTold rfl c21 rfl rfl (Nat.le_of_ble_eq_true rfl) (t_X12_statementTold (by omega) hc20) ?_
      refine x_goto (tgt := 74) dX12_machine_93 (by decide) ?_
      exact hk74 H
def f_X12_machine_74 : Nat → Nat → aH → Option (Int32 × aH)
  | 0 => fun _ _ => none
  | n + 1 => b_X12_machine_74 (f_X12_machine_74 n)
set_option maxRecDepth 100000 in
set_option maxHeartbeats 4000000 in
theorem t_X12_machine_74 {Γ : gS} {d : Nat} (hd : 11 ≤ d) (n : Nat) : ∀ {x0 : Nat} {h : aH} {r : Int32} {h' : aH}, f_X12_machine_74 n x0 h = some (r, h') → Ex Γ gX12_machine d 74 [(0, .ref x0)] [] h (some (.int r)) h' := by
  induction n with
  | zero => intro x0 h r h' H; cases H
  | succ n ih => intro x0 h r h' H; exact tb_X12_machine_74 hd ih H
def b_X12_machine_47 (k47 : Nat → Int32 → aH → Option (Int32 × aH)) (x0 : Nat) (x1 : Int32) (h : aH) : Option (Int32 × aH) :=
  if 3 ≤ x1 then
    ko h x0 11 <|
    bd (f_X12_machineTold x0 h) fun _ h24 =>
    ko h24 x0 11 <|
    f_X12_machine_74 FU x0 (sI h24 x0 44 1)
  else
    ko h x0 11 <|
    kr (hR h x0 40) fun a29 =>
    ka h a29 .int fun n32 =>
    chk (inb x1 n32 = true) <|
    nm (x1 + 1) fun (v34 : Int32) =>
    k47 x0 v34 (sI h a29 x1.toNatClampNeg (-1))
set_option maxRecDepth 100000 in
set_option maxHeartbeats 4000000 in
theorem tb_X12_machine_47 {Γ : gS} {d : Nat} (hd : 11 ≤ d) {k47 : Nat → Int32 → aH → Option (Int32 × aH)} (hk47 : ∀ {x0 : Nat} {x1 : Int32} {h : aH} {r : Int32} {h' : aH}, k47 x0 x1 h = some (r, h') → Ex Γ gX12_machine d 47 [(0, .ref x0), (1, .int x1)] [] h (some (.int r)) h') {x0 : Nat} {x1 : Int32} {h : aH} {r : Int32} {h' : aH} (H : b_X12_machine_47 k47 x0 x1 h = some (r, h')) : Ex Γ gX12_machine d 47 [(0, .ref x0), (1, .int x1)] [] h (some (.int r)) h' := by
  unfold b_X12_machine_47 at H
  obtain ⟨d, rfl⟩ : ∃ e, d = e + 1 := ⟨d - 1, by omega⟩
  refine x_iload_n dX12_machine_47 rfl 1 rfl ?_
  refine x_iconst (v := 3) dX12_machine_48 (by decide) ?_
  refine x_icmp_ge (tgt := 65) dX12_machine_49 (by decide) (fun c22 => ?_) (fun c22 => ?_)
  · replace H := ite_p H c22
    refine x_aload_n dX12_machine_65 rfl 0 rfl ?_
    obtain ⟨c27, H⟩ := ko_o H
    obtain ⟨v23, h24, hc25, H⟩ := bd_o H
    refine x_callVv (As := []) (q := (RX12, TX12, 103)) dX12_machine_66 mi_X12_machineTold lk_X12_336 im_X12_machineTold se_X12_machineTold rfl c27 rfl rfl (Nat.le_of_ble_eq_true rfl) (t_X12_machineTold (by omega) hc25) ?_
    refine x_aload_n dX12_machine_69 rfl 0 rfl ?_
    refine x_iconst (v := 1) dX12_machine_70 (by decide) ?_
    obtain ⟨c26, H⟩ := ko_o H
    refine x_putI fl_X12_327 dX12_machine_71 c26 (fun e => by cases e) rfl ?_
    refine Ex.sub [0] rfl ?_
    exact t_X12_machine_74 hd FU H
  · replace H := ite_m H c22
    refine x_aload_n dX12_machine_52 rfl 0 rfl ?_
    obtain ⟨c28, H⟩ := ko_o H
    obtain ⟨a29, c30, H⟩ := kr_o H
    refine x_getR fr_X12_106 dX12_machine_53 c28 rfl c30 ?_
    refine x_iload_n dX12_machine_56 rfl 1 rfl ?_
    refine x_iconst (v := (-1)) dX12_machine_57 (by decide) ?_
    obtain ⟨n32, c31, H⟩ := ka_o H
    obtain ⟨c33, H⟩ := chk_o H
    refine x_iast dX12_machine_58 c31 (inb_in.mp c33) ?_
    obtain ⟨v34, ev34, H⟩ := nm_o H
    refine x_iinc (v := v34) (lv' := [(1, .int v34), (0, .ref x0)]) dX12_machine_59 1 rfl (by decide) ev34 rfl ?_
    refine x_goto (tgt := 47) dX12_machine_62 (by decide) ?_
    refine Ex.sub [1, 0] rfl ?_
    exact hk47 H
def f_X12_machine_47 : Nat → Nat → Int32 → aH → Option (Int32 × aH)
  | 0 => fun _ _ _ => none
  | n + 1 => b_X12_machine_47 (f_X12_machine_47 n)
set_option maxRecDepth 100000 in
set_option maxHeartbeats 4000000 in
theorem t_X12_machine_47 {Γ : gS} {d : Nat} (hd : 11 ≤ d) (n : Nat) : ∀ {x0 : Nat} {x1 : Int32} {h : aH} {r : Int32} {h' : aH}, f_X12_machine_47 n x0 x1 h = some (r, h') → Ex Γ gX12_machine d 47 [(0, .ref x0), (1, .int x1)] [] h (some (.int r)) h' := by
  induction n with
  | zero => intro x0 x1 h r h' H; cases H
  | succ n ih => intro x0 x1 h r h' H; exact tb_X12_machine_47 hd ih H
def f_X12_machine (x0 : Nat) (h : aH) : Option (Int32 × aH) :=
  ko h x0 11 <|
  kr (hR h x0 37) fun a36 =>
  ka h a36 .int fun n39 =>
  chk (inb 2 n39 = true) <|
  f_X12_machine_47 FU x0 0 (sI (sI (sI (sI (sI (sI (sI (sI h x0 3 (hI h x0 1)) x0 1 0) x0 2 0) x0 4 (-1)) x0 5 0) x0 6 (-1)) x0 43 0) a36 (2 : Int32).toNatClampNeg 0)
set_option maxRecDepth 100000 in
set_option maxHeartbeats 4000000 in
theorem t_X12_machine {Γ : gS} {d : Nat} (hd : 11 ≤ d) {x0 : Nat} {h : aH} {r : Int32} {h' : aH} (H : f_X12_machine x0 h = some (r, h')) : Mx Γ gX12_machine d [.ref x0] h (some (.int r)) h' := by
  refine Mx.of (by decide +kernel) (Nat.le_of_ble_eq_true rfl) ?_
  unfold f_X12_machine at H
  show Ex Γ gX12_machine d 0 [(0, .ref x0)] [] h (some (.int r)) h'
  obtain ⟨d, rfl⟩ : ∃ e, d = e + 1 := ⟨d - 1, by omega⟩
  refine x_aload_n dX12_machine_0 rfl 0 rfl ?_
  refine x_aload_n dX12_machine_1 rfl 0 rfl ?_
  obtain ⟨c35, H⟩ := ko_o H
  refine x_getI fr_X12_222 dX12_machine_2 c35 rfl ?_
  refine x_putI fl_X12_234 dX12_machine_5 c35 (fun e => by cases e) rfl ?_
  refine x_aload_n dX12_machine_8 rfl 0 rfl ?_
  refine x_iconst (v := 0) dX12_machine_9 (by decide) ?_
  refine x_putI fl_X12_222 dX12_machine_10 c35 (fun e => by cases e) rfl ?_
  refine x_aload_n dX12_machine_13 rfl 0 rfl ?_
  refine x_iconst (v := 0) dX12_machine_14 (by decide) ?_
  refine x_putI fl_X12_231 dX12_machine_15 c35 (fun e => by cases e) rfl ?_
  refine x_aload_n dX12_machine_18 rfl 0 rfl ?_
  refine x_iconst (v := (-1)) dX12_machine_19 (by decide) ?_
  refine x_putI fl_X12_245 dX12_machine_20 c35 (fun e => by cases e) rfl ?_
  refine x_aload_n dX12_machine_23 rfl 0 rfl ?_
  refine x_iconst (v := 0) dX12_machine_24 (by decide) ?_
  refine x_putI fl_X12_225 dX12_machine_25 c35 (fun e => by cases e) rfl ?_
  refine x_aload_n dX12_machine_28 rfl 0 rfl ?_
  refine x_iconst (v := (-1)) dX12_machine_29 (by decide) ?_
  refine x_putI fl_X12_228 dX12_machine_30 c35 (fun e => by cases e) rfl ?_
  refine x_aload_n dX12_machine_33 rfl 0 rfl ?_
  refine x_iconst (v := 0) dX12_machine_34 (by decide) ?_
  refine x_putI fl_X12_324 dX12_machine_35 c35 (fun e => by cases e) rfl ?_
  refine x_aload_n dX12_machine_38 rfl 0 rfl ?_
  obtain ⟨a36, c37, H⟩ := kr_o H
  refine x_getR fr_X12_96 dX12_machine_39 c35 rfl c37 ?_
  refine x_iconst (v := 2) dX12_machine_42 (by decide) ?_
  refine x_iconst (v := 0) dX12_machine_43 (by decide) ?_
  obtain ⟨n39, c38, H⟩ := ka_o H
  obtain ⟨c40, H⟩ := chk_o H
  refine x_iast dX12_machine_44 c38 (inb_in.mp c40) ?_
  refine x_iconst (v := 0) dX12_machine_45 (by decide) ?_
  refine x_istore_n (lv' := [(1, .int 0), (0, .ref x0)]) dX12_machine_46 rfl (by decide) rfl rfl ?_
  refine Ex.sub [1, 0] rfl ?_
  exact t_X12_machine_47 hd FU H
def f_X12_fault_24 (s0 : Int32) (h : aH) : Option (Int32 × aH) :=
  some (s0, h)
set_option maxRecDepth 100000 in
set_option maxHeartbeats 4000000 in
theorem t_X12_fault_24 {Γ : gS} {d : Nat} (hd : 0 ≤ d) {s0 : Int32} {h : aH} {r : Int32} {h' : aH} (H : f_X12_fault_24 s0 h = some (r, h')) : Ex Γ gX12_fault d 24 [] [.int s0] h (some (.int r)) h' := by
  unfold f_X12_fault_24 at H
  obtain ⟨rfl, rfl⟩ := so_1 H
  exact x_iret dX12_fault_24 rfl rfl
def f_X12_fault (x0 : Nat) (x1 : Int32) (h : aH) : Option (Int32 × aH) :=
  if x1 = 0 then
    ko h x0 11 <|
    f_X12_fault_24 (hI h x0 7) h
  else
    if x1 = 1 then
      ko h x0 11 <|
      f_X12_fault_24 (hI h x0 8) h
    else
      f_X12_fault_24 (-1) h
set_option maxRecDepth 100000 in
set_option maxHeartbeats 4000000 in
theorem t_X12_fault {Γ : gS} {d : Nat} (hd : 0 ≤ d) {x0 : Nat} {x1 : Int32} {h : aH} {r : Int32} {h' : aH} (H : f_X12_fault x0 x1 h = some (r, h')) : Mx Γ gX12_fault d [.ref x0, .int x1] h (some (.int r)) h' := by
  refine Mx.of (by decide +kernel) (Nat.le_of_ble_eq_true rfl) ?_
  unfold f_X12_fault at H
  show Ex Γ gX12_fault d 0 [(0, .ref x0), (1, .int x1)] [] h (some (.int r)) h'
  refine x_iload_n dX12_fault_0 rfl 1 rfl ?_
  refine x_if_ne (tgt := 11) dX12_fault_1 (by decide) (fun c1 => ?_) (fun c1 => ?_)
  · replace H := ite_m H c1
    refine x_iload_n dX12_fault_11 rfl 1 rfl ?_
    refine x_iconst (v := 1) dX12_fault_12 (by decide) ?_
    refine x_icmp_ne (tgt := 23) dX12_fault_13 (by decide) (fun c2 => ?_) (fun c2 => ?_)
    · replace H := ite_m H c2
      refine x_iconst (v := (-1)) dX12_fault_23 (by decide) ?_
      refine Ex.sub [] rfl ?_
      exact t_X12_fault_24 hd H
    · replace H := ite_p H c2
      refine x_aload_n dX12_fault_16 rfl 0 rfl ?_
      obtain ⟨c3, H⟩ := ko_o H
      refine x_getI fr_X12_13 dX12_fault_17 c3 rfl ?_
      refine x_goto (tgt := 24) dX12_fault_20 (by decide) ?_
      refine Ex.sub [] rfl ?_
      exact t_X12_fault_24 hd H
  · replace H := ite_p H c1
    refine x_aload_n dX12_fault_4 rfl 0 rfl ?_
    obtain ⟨c4, H⟩ := ko_o H
    refine x_getI fr_X12_342 dX12_fault_5 c4 rfl ?_
    refine x_goto (tgt := 24) dX12_fault_8 (by decide) ?_
    refine Ex.sub [] rfl ?_
    exact t_X12_fault_24 hd H
def f_X12_shelfMany (x0 : Nat) (h : aH) : Option (Int32 × aH) :=
  ko h x0 11 <|
  kr (hR h x0 37) fun a2 =>
  ka h a2 .int fun n5 =>
  chk (inb 5 n5 = true) <|
  some (hI h a2 (5 : Int32).toNatClampNeg, h)
set_option maxRecDepth 100000 in
set_option maxHeartbeats 4000000 in
theorem t_X12_shelfMany {Γ : gS} {d : Nat} (hd : 0 ≤ d) {x0 : Nat} {h : aH} {r : Int32} {h' : aH} (H : f_X12_shelfMany x0 h = some (r, h')) : Mx Γ gX12_shelfMany d [.ref x0] h (some (.int r)) h' := by
  refine Mx.of (by decide +kernel) (Nat.le_of_ble_eq_true rfl) ?_
  unfold f_X12_shelfMany at H
  show Ex Γ gX12_shelfMany d 0 [(0, .ref x0)] [] h (some (.int r)) h'
  refine x_aload_n dX12_shelfMany_0 rfl 0 rfl ?_
  obtain ⟨c1, H⟩ := ko_o H
  obtain ⟨a2, c3, H⟩ := kr_o H
  refine x_getR fr_X12_96 dX12_shelfMany_1 c1 rfl c3 ?_
  refine x_iconst (v := 5) dX12_shelfMany_4 (by decide) ?_
  obtain ⟨n5, c4, H⟩ := ka_o H
  obtain ⟨c6, H⟩ := chk_o H
  refine x_iald dX12_shelfMany_5 c4 (inb_in.mp c6) ?_
  obtain ⟨rfl, rfl⟩ := so_1 H
  exact x_iret dX12_shelfMany_6 rfl rfl
def f_X12_isPointer_23 (s0 : Int32) (h : aH) : Option (Int32 × aH) :=
  chk (narrow .boolean (.int s0) = .int s0) <|
  some (s0, h)
set_option maxRecDepth 100000 in
set_option maxHeartbeats 4000000 in
theorem t_X12_isPointer_23 {Γ : gS} {d : Nat} (hd : 1 ≤ d) {s0 : Int32} {h : aH} {r : Int32} {h' : aH} (H : f_X12_isPointer_23 s0 h = some (r, h')) : Ex Γ gX12_isPointer d 23 [] [.int s0] h (some (.int r)) h' := by
  unfold f_X12_isPointer_23 at H
  obtain ⟨d, rfl⟩ : ∃ e, d = e + 1 := ⟨d - 1, by omega⟩
  obtain ⟨c1, H⟩ := chk_o H
  obtain ⟨rfl, rfl⟩ := so_1 H
  exact x_iret dX12_isPointer_23 rfl c1
def f_X12_isPointer_22 (h : aH) : Option (Int32 × aH) :=
  f_X12_isPointer_23 0 h
set_option maxRecDepth 100000 in
set_option maxHeartbeats 4000000 in
theorem t_X12_isPointer_22 {Γ : gS} {d : Nat} (hd : 1 ≤ d) {h : aH} {r : Int32} {h' : aH} (H : f_X12_isPointer_22 h = some (r, h')) : Ex Γ gX12_isPointer d 22 [] [] h (some (.int r)) h' := by
  unfold f_X12_isPointer_22 at H
  obtain ⟨d, rfl⟩ : ∃ e, d = e + 1 := ⟨d - 1, by omega⟩
  refine x_iconst (v := 0) dX12_isPointer_22 (by decide) ?_
  exact t_X12_isPointer_23 hd H
def f_X12_isPointer (x0 : Nat) (x1 : Int64) (h : aH) : Option (Int32 × aH) :=
  ko h x0 11 <|
  if (hI h x0 45) = 0 then
    f_X12_isPointer_22 h
  else
    bd (f_X12_isIn x1 0 15 h) fun v4 h5 =>
    if v4 = 0 then
      f_X12_isPointer_22 h5
    else
      f_X12_isPointer_23 1 h5
set_option maxRecDepth 100000 in
set_option maxHeartbeats 4000000 in
theorem t_X12_isPointer {Γ : gS} {d : Nat} (hd : 1 ≤ d) {x0 : Nat} {x1 : Int64} {h : aH} {r : Int32} {h' : aH} (H : f_X12_isPointer x0 x1 h = some (r, h')) : Mx Γ gX12_isPointer d [.ref x0, .long x1] h (some (.int r)) h' := by
  refine Mx.of (by decide +kernel) (Nat.le_of_ble_eq_true rfl) ?_
  unfold f_X12_isPointer at H
  show Ex Γ gX12_isPointer d 0 [(0, .ref x0), (1, .long x1)] [] h (some (.int r)) h'
  obtain ⟨d, rfl⟩ : ∃ e, d = e + 1 := ⟨d - 1, by omega⟩
  refine x_aload_n dX12_isPointer_0 rfl 0 rfl ?_
  obtain ⟨c2, H⟩ := ko_o H
  refine x_getI fr_X12_352 dX12_isPointer_1 c2 rfl ?_
  refine x_if_eq (tgt := 22) dX12_isPointer_4 (by decide) (fun c3 => ?_) (fun c3 => ?_)
  · replace H := ite_p H c3
    refine Ex.sub [] rfl ?_
    exact t_X12_isPointer_22 hd H
  · replace H := ite_m H c3
    refine x_lload_n dX12_isPointer_7 rfl 1 rfl ?_
    refine x_lconst (v := 0) dX12_isPointer_8 (by decide) ?_
    refine x_ldc2 kc_X12_368 dX12_isPointer_9 ?_
    obtain ⟨v4, h5, hc6, H⟩ := bd_o H
    refine x_callSi (As := [.long x1, .long 0, .long 15]) dX12_isPointer_12 mi_X12_isIn lk_X12_268 sm_X12_isIn rfl rfl (Nat.le_of_ble_eq_true rfl) (t_X12_isIn (by omega) hc6) ?_
    refine x_if_eq (tgt := 22) dX12_isPointer_15 (by decide) (fun c7 => ?_) (fun c7 => ?_)
    · replace H := ite_p H c7
      refine Ex.sub [] rfl ?_
      exact t_X12_isPointer_22 hd H
    · replace H := ite_m H c7
      refine x_iconst (v := 1) dX12_isPointer_18 (by decide) ?_
      refine x_goto (tgt := 23) dX12_isPointer_19 (by decide) ?_
      refine Ex.sub [] rfl ?_
      exact t_X12_isPointer_23 hd H
def f_X12_isShelf (x0 : Nat) (x1 : Int32) (h : aH) : Option (Int32 × aH) :=
  ko h x0 11 <|
  bd (f_X12_shelfMany x0 h) fun v1 h2 =>
  bd (f_X12_isIn x1.toInt64 0 ((v1 - 1 : Int32).toInt64) h2) fun v4 h5 =>
  chk (narrow .boolean (.int v4) = .int v4) <|
  some (v4, h5)
set_option maxRecDepth 100000 in
set_option maxHeartbeats 4000000 in
theorem t_X12_isShelf {Γ : gS} {d : Nat} (hd : 1 ≤ d) {x0 : Nat} {x1 : Int32} {h : aH} {r : Int32} {h' : aH} (H : f_X12_isShelf x0 x1 h = some (r, h')) : Mx Γ gX12_isShelf d [.ref x0, .int x1] h (some (.int r)) h' := by
  refine Mx.of (by decide +kernel) (Nat.le_of_ble_eq_true rfl) ?_
  unfold f_X12_isShelf at H
  show Ex Γ gX12_isShelf d 0 [(0, .ref x0), (1, .int x1)] [] h (some (.int r)) h'
  obtain ⟨d, rfl⟩ : ∃ e, d = e + 1 := ⟨d - 1, by omega⟩
  refine x_iload_n dX12_isShelf_0 rfl 1 rfl ?_
  refine x_i2l dX12_isShelf_1 ?_
  refine x_lconst (v := 0) dX12_isShelf_2 (by decide) ?_
  refine x_aload_n dX12_isShelf_3 rfl 0 rfl ?_
  obtain ⟨c8, H⟩ := ko_o H
  obtain ⟨v1, h2, hc3, H⟩ := bd_o H
  refine x_callVi (As := []) (q := (RX12, TX12, 103)) dX12_isShelf_4 mi_X12_shelfMany lk_X12_370 im_X12_shelfMany se_X12_shelfMany rfl c8 rfl rfl (Nat.le_of_ble_eq_true rfl) (t_X12_shelfMany (by omega) hc3) ?_
  refine x_iconst (v := 1) dX12_isShelf_7 (by decide) ?_
  refine x_isub dX12_isShelf_8 ?_
  refine x_i2l dX12_isShelf_9 ?_
  obtain ⟨v4, h5, hc6, H⟩ := bd_o H
  refine x_callSi (As := [.long x1.toInt64, .long 0, .long ((v1 - 1 : Int32).toInt64)]) dX12_isShelf_10 mi_X12_isIn lk_X12_268 sm_X12_isIn rfl rfl (Nat.le_of_ble_eq_true rfl) (t_X12_isIn (by omega) hc6) ?_
  obtain ⟨c7, H⟩ := chk_o H
  obtain ⟨rfl, rfl⟩ := so_1 H
  exact x_iret dX12_isShelf_13 rfl c7
def f_X12_isCoded_17 (s0 : Int32) (h : aH) : Option (Int32 × aH) :=
  chk (narrow .boolean (.int s0) = .int s0) <|
  some (s0, h)
set_option maxRecDepth 100000 in
set_option maxHeartbeats 4000000 in
theorem t_X12_isCoded_17 {Γ : gS} {d : Nat} (hd : 0 ≤ d) {s0 : Int32} {h : aH} {r : Int32} {h' : aH} (H : f_X12_isCoded_17 s0 h = some (r, h')) : Ex Γ gX12_isCoded d 17 [] [.int s0] h (some (.int r)) h' := by
  unfold f_X12_isCoded_17 at H
  obtain ⟨c1, H⟩ := chk_o H
  obtain ⟨rfl, rfl⟩ := so_1 H
  exact x_iret dX12_isCoded_17 rfl c1
def f_X12_isCoded (x0 : Nat) (x1 : Int32) (h : aH) : Option (Int32 × aH) :=
  ko h x0 11 <|
  kr (hR h x0 40) fun a3 =>
  ka h a3 .int fun n6 =>
  chk (inb (3 + x1) n6 = true) <|
  if (hI h a3 (3 + x1 : Int32).toNatClampNeg) = (-1) then
    f_X12_isCoded_17 0 h
  else
    f_X12_isCoded_17 1 h
set_option maxRecDepth 100000 in
set_option maxHeartbeats 4000000 in
theorem t_X12_isCoded {Γ : gS} {d : Nat} (hd : 0 ≤ d) {x0 : Nat} {x1 : Int32} {h : aH} {r : Int32} {h' : aH} (H : f_X12_isCoded x0 x1 h = some (r, h')) : Mx Γ gX12_isCoded d [.ref x0, .int x1] h (some (.int r)) h' := by
  refine Mx.of (by decide +kernel) (Nat.le_of_ble_eq_true rfl) ?_
  unfold f_X12_isCoded at H
  show Ex Γ gX12_isCoded d 0 [(0, .ref x0), (1, .int x1)] [] h (some (.int r)) h'
  refine x_aload_n dX12_isCoded_0 rfl 0 rfl ?_
  obtain ⟨c2, H⟩ := ko_o H
  obtain ⟨a3, c4, H⟩ := kr_o H
  refine x_getR fr_X12_106 dX12_isCoded_1 c2 rfl c4 ?_
  refine x_iconst (v := 3) dX12_isCoded_4 (by decide) ?_
  refine x_iload_n dX12_isCoded_5 rfl 1 rfl ?_
  refine x_iadd dX12_isCoded_6 ?_
  obtain ⟨n6, c5, H⟩ := ka_o H
  obtain ⟨c7, H⟩ := chk_o H
  refine x_iald dX12_isCoded_7 c5 (inb_in.mp c7) ?_
  refine x_iconst (v := (-1)) dX12_isCoded_8 (by decide) ?_
  refine x_icmp_eq (tgt := 16) dX12_isCoded_9 (by decide) (fun c8 => ?_) (fun c8 => ?_)
  · replace H := ite_p H c8
    refine x_iconst (v := 0) dX12_isCoded_16 (by decide) ?_
    refine Ex.sub [] rfl ?_
    exact t_X12_isCoded_17 hd H
  · replace H := ite_m H c8
    refine x_iconst (v := 1) dX12_isCoded_12 (by decide) ?_
    refine x_goto (tgt := 17) dX12_isCoded_13 (by decide) ?_
    refine Ex.sub [] rfl ?_
    exact t_X12_isCoded_17 hd H
def f_X12_qClip_29 (s0 : Int64) (h : aH) : Option (Int64 × aH) :=
  some (s0, h)
set_option maxRecDepth 100000 in
set_option maxHeartbeats 4000000 in
theorem t_X12_qClip_29 {Γ : gS} {d : Nat} (hd : 0 ≤ d) {s0 : Int64} {h : aH} {r : Int64} {h' : aH} (H : f_X12_qClip_29 s0 h = some (r, h')) : Ex Γ gX12_qClip d 29 [] [.long s0] h (some (.long r)) h' := by
  unfold f_X12_qClip_29 at H
  obtain ⟨rfl, rfl⟩ := so_1 H
  exact x_lret dX12_qClip_29 rfl
def f_X12_qClip (x0 : Int64) (h : aH) : Option (Int64 × aH) :=
  if (lg_cmp x0 1000000) ≤ 0 then
    if 0 ≤ (lg_cmp x0 (-1000000)) then
      f_X12_qClip_29 x0 h
    else
      f_X12_qClip_29 (-1000000) h
  else
    f_X12_qClip_29 1000000 h
set_option maxRecDepth 100000 in
set_option maxHeartbeats 4000000 in
theorem t_X12_qClip {Γ : gS} {d : Nat} (hd : 0 ≤ d) {x0 : Int64} {h : aH} {r : Int64} {h' : aH} (H : f_X12_qClip x0 h = some (r, h')) : Mx Γ gX12_qClip d [.long x0] h (some (.long r)) h' := by
  refine Mx.of (by decide +kernel) (Nat.le_of_ble_eq_true rfl) ?_
  unfold f_X12_qClip at H
  show Ex Γ gX12_qClip d 0 [(0, .long x0)] [] h (some (.long r)) h'
  refine x_lload_n dX12_qClip_0 rfl 0 rfl ?_
  refine x_ldc2 kc_X12_629 dX12_qClip_1 ?_
  refine x_lcmp dX12_qClip_4 ?_
  refine x_if_le (tgt := 14) dX12_qClip_5 (by decide) (fun c1 => ?_) (fun c1 => ?_)
  · replace H := ite_p H c1
    refine x_lload_n dX12_qClip_14 rfl 0 rfl ?_
    refine x_ldc2 kc_X12_631 dX12_qClip_15 ?_
    refine x_lcmp dX12_qClip_18 ?_
    refine x_if_ge (tgt := 28) dX12_qClip_19 (by decide) (fun c2 => ?_) (fun c2 => ?_)
    · replace H := ite_p H c2
      refine x_lload_n dX12_qClip_28 rfl 0 rfl ?_
      refine Ex.sub [] rfl ?_
      exact t_X12_qClip_29 hd H
    · replace H := ite_m H c2
      refine x_ldc2 kc_X12_631 dX12_qClip_22 ?_
      refine x_goto (tgt := 29) dX12_qClip_25 (by decide) ?_
      refine Ex.sub [] rfl ?_
      exact t_X12_qClip_29 hd H
  · replace H := ite_m H c1
    refine x_ldc2 kc_X12_629 dX12_qClip_8 ?_
    refine x_goto (tgt := 29) dX12_qClip_11 (by decide) ?_
    refine Ex.sub [] rfl ?_
    exact t_X12_qClip_29 hd H
def f_X12_qFloor_55 (s0 : Int64) (h : aH) : Option (Int64 × aH) :=
  some (s0, h)
set_option maxRecDepth 100000 in
set_option maxHeartbeats 4000000 in
theorem t_X12_qFloor_55 {Γ : gS} {d : Nat} (hd : 0 ≤ d) {s0 : Int64} {h : aH} {r : Int64} {h' : aH} (H : f_X12_qFloor_55 s0 h = some (r, h')) : Ex Γ gX12_qFloor d 55 [] [.long s0] h (some (.long r)) h' := by
  unfold f_X12_qFloor_55 at H
  obtain ⟨rfl, rfl⟩ := so_1 H
  exact x_lret dX12_qFloor_55 rfl
def f_X12_qFloor_53 (x4 : Int64) (h : aH) : Option (Int64 × aH) :=
  f_X12_qFloor_55 x4 h
set_option maxRecDepth 100000 in
set_option maxHeartbeats 4000000 in
theorem t_X12_qFloor_53 {Γ : gS} {d : Nat} (hd : 0 ≤ d) {x4 : Int64} {h : aH} {r : Int64} {h' : aH} (H : f_X12_qFloor_53 x4 h = some (r, h')) : Ex Γ gX12_qFloor d 53 [(4, .long x4)] [] h (some (.long r)) h' := by
  unfold f_X12_qFloor_53 at H
  refine x_lload dX12_qFloor_53 0 rfl ?_
  refine Ex.sub [] rfl ?_
  exact t_X12_qFloor_55 hd H
def f_X12_qFloor_43 (x4 : Int64) (s0 : Int32) (s1 : Int32) (h : aH) : Option (Int64 × aH) :=
  if s0 = s1 then
    f_X12_qFloor_53 x4 h
  else
    f_X12_qFloor_55 (x4 - 1) h
set_option maxRecDepth 100000 in
set_option maxHeartbeats 4000000 in
theorem t_X12_qFloor_43 {Γ : gS} {d : Nat} (hd : 0 ≤ d) {x4 : Int64} {s0 : Int32} {s1 : Int32} {h : aH} {r : Int64} {h' : aH} (H : f_X12_qFloor_43 x4 s0 s1 h = some (r, h')) : Ex Γ gX12_qFloor d 43 [(4, .long x4)] [.int s1, .int s0] h (some (.long r)) h' := by
  unfold f_X12_qFloor_43 at H
  refine x_icmp_eq (tgt := 53) dX12_qFloor_43 (by decide) (fun c1 => ?_) (fun c1 => ?_)
  · replace H := ite_p H c1
    exact t_X12_qFloor_53 hd H
  · replace H := ite_m H c1
    refine x_lload dX12_qFloor_46 0 rfl ?_
    refine x_lconst (v := 1) dX12_qFloor_48 (by decide) ?_
    refine x_lsub dX12_qFloor_49 ?_
    refine x_goto (tgt := 55) dX12_qFloor_50 (by decide) ?_
    refine Ex.sub [] rfl ?_
    exact t_X12_qFloor_55 hd H
def f_X12_qFloor_32 (x2 : Int64) (x4 : Int64) (s0 : Int32) (h : aH) : Option (Int64 × aH) :=
  if 0 ≤ (lg_cmp x2 0) then
    f_X12_qFloor_43 x4 s0 0 h
  else
    f_X12_qFloor_43 x4 s0 1 h
set_option maxRecDepth 100000 in
set_option maxHeartbeats 4000000 in
theorem t_X12_qFloor_32 {Γ : gS} {d : Nat} (hd : 0 ≤ d) {x2 : Int64} {x4 : Int64} {s0 : Int32} {h : aH} {r : Int64} {h' : aH} (H : f_X12_qFloor_32 x2 x4 s0 h = some (r, h')) : Ex Γ gX12_qFloor d 32 [(2, .long x2), (4, .long x4)] [.int s0] h (some (.long r)) h' := by
  unfold f_X12_qFloor_32 at H
  refine x_lload_n dX12_qFloor_32 rfl 0 rfl ?_
  refine x_lconst (v := 0) dX12_qFloor_33 (by decide) ?_
  refine x_lcmp dX12_qFloor_34 ?_
  refine x_if_ge (tgt := 42) dX12_qFloor_35 (by decide) (fun c2 => ?_) (fun c2 => ?_)
  · replace H := ite_p H c2
    refine x_iconst (v := 0) dX12_qFloor_42 (by decide) ?_
    refine Ex.sub [1] rfl ?_
    exact t_X12_qFloor_43 hd H
  · replace H := ite_m H c2
    refine x_iconst (v := 1) dX12_qFloor_38 (by decide) ?_
    refine x_goto (tgt := 43) dX12_qFloor_39 (by decide) ?_
    refine Ex.sub [1] rfl ?_
    exact t_X12_qFloor_43 hd H
def f_X12_qFloor (x0 : Int64) (x2 : Int64) (h : aH) : Option (Int64 × aH) :=
  if (lg_cmp x2 0) = 0 then
    some (0, h)
  else
    chk (¬ x2 = 0) <|
    nm (x0 / x2) fun (v4 : Int64) =>
    chk (¬ x2 = 0) <|
    if (lg_cmp (x0 - x0 / x2 * x2) 0) = 0 then
      f_X12_qFloor_53 v4 h
    else
      if 0 ≤ (lg_cmp x0 0) then
        f_X12_qFloor_32 x2 v4 0 h
      else
        f_X12_qFloor_32 x2 v4 1 h
set_option maxRecDepth 100000 in
set_option maxHeartbeats 4000000 in
theorem t_X12_qFloor {Γ : gS} {d : Nat} (hd : 0 ≤ d) {x0 : Int64} {x2 : Int64} {h : aH} {r : Int64} {h' : aH} (H : f_X12_qFloor x0 x2 h = some (r, h')) : Mx Γ gX12_qFloor d [.long x0, .long x2] h (some (.long r)) h' := by
  refine Mx.of (by decide +kernel) (Nat.le_of_ble_eq_true rfl) ?_
  unfold f_X12_qFloor at H
  show Ex Γ gX12_qFloor d 0 [(0, .long x0), (2, .long x2)] [] h (some (.long r)) h'
  refine x_lload_n dX12_qFloor_0 rfl 1 rfl ?_
  refine x_lconst (v := 0) dX12_qFloor_1 (by decide) ?_
  refine x_lcmp dX12_qFloor_2 ?_
  refine x_if_ne (tgt := 8) dX12_qFloor_3 (by decide) (fun c3 => ?_) (fun c3 => ?_)
  · replace H := ite_m H c3
    refine x_lload_n dX12_qFloor_8 rfl 0 rfl ?_
    refine x_lload_n dX12_qFloor_9 rfl 1 rfl ?_
    obtain ⟨c8, H⟩ := chk_o H
    refine x_ldiv dX12_qFloor_10 c8 ?_
    obtain ⟨v4, ev4, H⟩ := nm_o H
    refine x_lstore (lv' := [(4, .long v4), (0, .long x0), (2, .long x2)]) dX12_qFloor_11 (by decide) ev4 rfl ?_
    refine x_lload_n dX12_qFloor_13 rfl 1 rfl ?_
    refine x_lload_n dX12_qFloor_14 rfl 2 rfl ?_
    obtain ⟨c7, H⟩ := chk_o H
    refine x_lrem dX12_qFloor_15 c7 ?_
    refine x_lconst (v := 0) dX12_qFloor_16 (by decide) ?_
    refine x_lcmp dX12_qFloor_17 ?_
    refine x_if_eq (tgt := 53) dX12_qFloor_18 (by decide) (fun c5 => ?_) (fun c5 => ?_)
    · replace H := ite_p H c5
      refine Ex.sub [0] rfl ?_
      exact t_X12_qFloor_53 hd H
    · replace H := ite_m H c5
      refine x_lload_n dX12_qFloor_21 rfl 1 rfl ?_
      refine x_lconst (v := 0) dX12_qFloor_22 (by decide) ?_
      refine x_lcmp dX12_qFloor_23 ?_
      refine x_if_ge (tgt := 31) dX12_qFloor_24 (by decide) (fun c6 => ?_) (fun c6 => ?_)
      · replace H := ite_p H c6
        refine x_iconst (v := 0) dX12_qFloor_31 (by decide) ?_
        refine Ex.sub [2, 0] rfl ?_
        exact t_X12_qFloor_32 hd H
      · replace H := ite_m H c6
        refine x_iconst (v := 1) dX12_qFloor_27 (by decide) ?_
        refine x_goto (tgt := 32) dX12_qFloor_28 (by decide) ?_
        refine Ex.sub [2, 0] rfl ?_
        exact t_X12_qFloor_32 hd H
  · replace H := ite_p H c3
    refine x_lconst (v := 0) dX12_qFloor_6 (by decide) ?_
    obtain ⟨rfl, rfl⟩ := so_1 H
    exact x_lret dX12_qFloor_7 rfl
def f_X12_qPuts (x0 : Nat) (x1 : Int64) (h : aH) : Option (Unit × aH) :=
  ko h x0 11 <|
  kr (hR h x0 97) fun a2 =>
  ka h a2 .long fun n5 =>
  chk (inb (hI h x0 98) n5 = true) <|
  nm (hI (sL h a2 (hI h x0 98 : Int32).toNatClampNeg x1) x0 98) fun (v7 : Int32) =>
  some ((), sI (sL h a2 (hI h x0 98 : Int32).toNatClampNeg x1) x0 98 (v7 + 1))
set_option maxRecDepth 100000 in
set_option maxHeartbeats 4000000 in
theorem t_X12_qPuts {Γ : gS} {d : Nat} (hd : 0 ≤ d) {x0 : Nat} {x1 : Int64} {h : aH} {r : Unit} {h' : aH} (H : f_X12_qPuts x0 x1 h = some (r, h')) : Mx Γ gX12_qPuts d [.ref x0, .long x1] h none h' := by
  refine Mx.of (by decide +kernel) (Nat.le_of_ble_eq_true rfl) ?_
  unfold f_X12_qPuts at H
  show Ex Γ gX12_qPuts d 0 [(0, .ref x0), (1, .long x1)] [] h none h'
  refine x_aload_n dX12_qPuts_0 rfl 0 rfl ?_
  obtain ⟨c1, H⟩ := ko_o H
  obtain ⟨a2, c3, H⟩ := kr_o H
  refine x_getR fr_X12_216 dX12_qPuts_1 c1 rfl c3 ?_
  refine x_aload_n dX12_qPuts_4 rfl 0 rfl ?_
  refine x_getI fr_X12_373 dX12_qPuts_5 c1 rfl ?_
  refine x_lload_n dX12_qPuts_8 rfl 1 rfl ?_
  obtain ⟨n5, c4, H⟩ := ka_o H
  obtain ⟨c6, H⟩ := chk_o H
  refine x_last dX12_qPuts_9 c4 (inb_in.mp c6) ?_
  refine x_aload_n dX12_qPuts_10 rfl 0 rfl ?_
  refine x_dup dX12_qPuts_11 rfl ?_
  obtain ⟨v7, ev7, H⟩ := nm_o H
  refine x_getIe fr_X12_373 dX12_qPuts_12 c1 rfl ev7 ?_
  refine x_iconst (v := 1) dX12_qPuts_15 (by decide) ?_
  refine x_iadd dX12_qPuts_16 ?_
  refine x_putI fl_X12_373 dX12_qPuts_17 c1 (fun e => by cases e) rfl ?_
  obtain ⟨-, rfl⟩ := so_1 H
  exact x_vret dX12_qPuts_20 rfl
def f_X12_qJoins_273 (h : aH) : Option (Unit × aH) :=
  some ((), h)
set_option maxRecDepth 100000 in
set_option maxHeartbeats 4000000 in
theorem t_X12_qJoins_273 {Γ : gS} {d : Nat} (hd : 1 ≤ d) {h : aH} {r : Unit} {h' : aH} (H : f_X12_qJoins_273 h = some (r, h')) : Ex Γ gX12_qJoins d 273 [] [] h none h' := by
  unfold f_X12_qJoins_273 at H
  obtain ⟨d, rfl⟩ : ∃ e, d = e + 1 := ⟨d - 1, by omega⟩
  obtain ⟨-, rfl⟩ := so_1 H
  exact x_vret dX12_qJoins_273 rfl
def f_X12_qJoins_270 (s0 : Nat) (s1 : Int64) (h : aH) : Option (Unit × aH) :=
  ko h s0 11 <|
  bd (f_X12_qPuts s0 s1 h) fun _ h2 =>
  f_X12_qJoins_273 h2
set_option maxRecDepth 100000 in
set_option maxHeartbeats 4000000 in
theorem t_X12_qJoins_270 {Γ : gS} {d : Nat} (hd : 1 ≤ d) {s0 : Nat} {s1 : Int64} {h : aH} {r : Unit} {h' : aH} (H : f_X12_qJoins_270 s0 s1 h = some (r, h')) : Ex Γ gX12_qJoins d 270 [] [.long s1, .ref s0] h none h' := by
  unfold f_X12_qJoins_270 at H
  obtain ⟨d, rfl⟩ : ∃ e, d = e + 1 := ⟨d - 1, by omega⟩
  obtain ⟨c4, H⟩ := ko_o H
  obtain ⟨v1, h2, hc3, H⟩ := bd_o H
  refine x_callVv (As := [.long s1]) (q := (RX12, TX12, 103)) dX12_qJoins_270 mi_X12_qPuts lk_X12_376 im_X12_qPuts se_X12_qPuts rfl c4 rfl rfl (Nat.le_of_ble_eq_true rfl) (t_X12_qPuts (by omega) hc3) ?_
  exact t_X12_qJoins_273 hd H
def f_X12_qJoins_255 (x0 : Nat) (x2 : Int64) (x4 : Int64) (h : aH) : Option (Unit × aH) :=
  if (lg_cmp (x4 + x2) 0) ≤ 0 then
    f_X12_qJoins_270 x0 0 h
  else
    f_X12_qJoins_270 x0 1 h
set_option maxRecDepth 100000 in
set_option maxHeartbeats 4000000 in
theorem t_X12_qJoins_255 {Γ : gS} {d : Nat} (hd : 1 ≤ d) {x0 : Nat} {x2 : Int64} {x4 : Int64} {h : aH} {r : Unit} {h' : aH} (H : f_X12_qJoins_255 x0 x2 x4 h = some (r, h')) : Ex Γ gX12_qJoins d 255 [(0, .ref x0), (2, .long x2), (4, .long x4)] [] h none h' := by
  unfold f_X12_qJoins_255 at H
  obtain ⟨d, rfl⟩ : ∃ e, d = e + 1 := ⟨d - 1, by omega⟩
  refine x_aload_n dX12_qJoins_255 rfl 0 rfl ?_
  refine x_lload dX12_qJoins_256 2 rfl ?_
  refine x_lload_n dX12_qJoins_258 rfl 1 rfl ?_
  refine x_ladd dX12_qJoins_259 ?_
  refine x_lconst (v := 0) dX12_qJoins_260 (by decide) ?_
  refine x_lcmp dX12_qJoins_261 ?_
  refine x_if_le (tgt := 269) dX12_qJoins_262 (by decide) (fun c5 => ?_) (fun c5 => ?_)
  · replace H := ite_p H c5
    refine x_lconst (v := 0) dX12_qJoins_269 (by decide) ?_
    refine Ex.sub [] rfl ?_
    exact t_X12_qJoins_270 hd H
  · replace H := ite_m H c5
    refine x_lconst (v := 1) dX12_qJoins_265 (by decide) ?_
    refine x_goto (tgt := 270) dX12_qJoins_266 (by decide) ?_
    refine Ex.sub [] rfl ?_
    exact t_X12_qJoins_270 hd H
def f_X12_qJoins_161 (s0 : Nat) (s1 : Int64) (h : aH) : Option (Unit × aH) :=
  ko h s0 11 <|
  bd (f_X12_qPuts s0 s1 h) fun _ h7 =>
  f_X12_qJoins_273 h7
set_option maxRecDepth 100000 in
set_option maxHeartbeats 4000000 in
theorem t_X12_qJoins_161 {Γ : gS} {d : Nat} (hd : 1 ≤ d) {s0 : Nat} {s1 : Int64} {h : aH} {r : Unit} {h' : aH} (H : f_X12_qJoins_161 s0 s1 h = some (r, h')) : Ex Γ gX12_qJoins d 161 [] [.long s1, .ref s0] h none h' := by
  unfold f_X12_qJoins_161 at H
  obtain ⟨d, rfl⟩ : ∃ e, d = e + 1 := ⟨d - 1, by omega⟩
  obtain ⟨c9, H⟩ := ko_o H
  obtain ⟨v6, h7, hc8, H⟩ := bd_o H
  refine x_callVv (As := [.long s1]) (q := (RX12, TX12, 103)) dX12_qJoins_161 mi_X12_qPuts lk_X12_376 im_X12_qPuts se_X12_qPuts rfl c9 rfl rfl (Nat.le_of_ble_eq_true rfl) (t_X12_qPuts (by omega) hc8) ?_
  refine x_goto (tgt := 273) dX12_qJoins_164 (by decide) ?_
  exact t_X12_qJoins_273 hd H
def f_X12_qJoins_181 (s0 : Nat) (s1 : Int64) (h : aH) : Option (Unit × aH) :=
  ko h s0 11 <|
  bd (f_X12_qPuts s0 s1 h) fun _ h11 =>
  f_X12_qJoins_273 h11
set_option maxRecDepth 100000 in
set_option maxHeartbeats 4000000 in
theorem t_X12_qJoins_181 {Γ : gS} {d : Nat} (hd : 1 ≤ d) {s0 : Nat} {s1 : Int64} {h : aH} {r : Unit} {h' : aH} (H : f_X12_qJoins_181 s0 s1 h = some (r, h')) : Ex Γ gX12_qJoins d 181 [] [.long s1, .ref s0] h none h' := by
  unfold f_X12_qJoins_181 at H
  obtain ⟨d, rfl⟩ : ∃ e, d = e + 1 := ⟨d - 1, by omega⟩
  obtain ⟨c13, H⟩ := ko_o H
  obtain ⟨v10, h11, hc12, H⟩ := bd_o H
  refine x_callVv (As := [.long s1]) (q := (RX12, TX12, 103)) dX12_qJoins_181 mi_X12_qPuts lk_X12_376 im_X12_qPuts se_X12_qPuts rfl c13 rfl rfl (Nat.le_of_ble_eq_true rfl) (t_X12_qPuts (by omega) hc12) ?_
  refine x_goto (tgt := 273) dX12_qJoins_184 (by decide) ?_
  exact t_X12_qJoins_273 hd H
def f_X12_qJoins_200 (s0 : Nat) (s1 : Int64) (h : aH) : Option (Unit × aH) :=
  ko h s0 11 <|
  bd (f_X12_qPuts s0 s1 h) fun _ h15 =>
  f_X12_qJoins_273 h15
set_option maxRecDepth 100000 in
set_option maxHeartbeats 4000000 in
theorem t_X12_qJoins_200 {Γ : gS} {d : Nat} (hd : 1 ≤ d) {s0 : Nat} {s1 : Int64} {h : aH} {r : Unit} {h' : aH} (H : f_X12_qJoins_200 s0 s1 h = some (r, h')) : Ex Γ gX12_qJoins d 200 [] [.long s1, .ref s0] h none h' := by
  unfold f_X12_qJoins_200 at H
  obtain ⟨d, rfl⟩ : ∃ e, d = e + 1 := ⟨d - 1, by omega⟩
  obtain ⟨c17, H⟩ := ko_o H
  obtain ⟨v14, h15, hc16, H⟩ := bd_o H
  refine x_callVv (As := [.long s1]) (q := (RX12, TX12, 103)) dX12_qJoins_200 mi_X12_qPuts lk_X12_376 im_X12_qPuts se_X12_qPuts rfl c17 rfl rfl (Nat.le_of_ble_eq_true rfl) (t_X12_qPuts (by omega) hc16) ?_
  refine x_goto (tgt := 273) dX12_qJoins_203 (by decide) ?_
  exact t_X12_qJoins_273 hd H
def f_X12_qJoins_219 (s0 : Nat) (s1 : Int64) (h : aH) : Option (Unit × aH) :=
  ko h s0 11 <|
  bd (f_X12_qPuts s0 s1 h) fun _ h19 =>
  f_X12_qJoins_273 h19
set_option maxRecDepth 100000 in
set_option maxHeartbeats 4000000 in
theorem t_X12_qJoins_219 {Γ : gS} {d : Nat} (hd : 1 ≤ d) {s0 : Nat} {s1 : Int64} {h : aH} {r : Unit} {h' : aH} (H : f_X12_qJoins_219 s0 s1 h = some (r, h')) : Ex Γ gX12_qJoins d 219 [] [.long s1, .ref s0] h none h' := by
  unfold f_X12_qJoins_219 at H
  obtain ⟨d, rfl⟩ : ∃ e, d = e + 1 := ⟨d - 1, by omega⟩
  obtain ⟨c21, H⟩ := ko_o H
  obtain ⟨v18, h19, hc20, H⟩ := bd_o H
  refine x_callVv (As := [.long s1]) (q := (RX12, TX12, 103)) dX12_qJoins_219 mi_X12_qPuts lk_X12_376 im_X12_qPuts se_X12_qPuts rfl c21 rfl rfl (Nat.le_of_ble_eq_true rfl) (t_X12_qPuts (by omega) hc20) ?_
  refine x_goto (tgt := 273) dX12_qJoins_222 (by decide) ?_
  exact t_X12_qJoins_273 hd H
def f_X12_qJoins_238 (s0 : Nat) (s1 : Int64) (h : aH) : Option (Unit × aH) :=
  ko h s0 11 <|
  bd (f_X12_qPuts s0 s1 h) fun _ h23 =>
  f_X12_qJoins_273 h23
set_option maxRecDepth 100000 in
set_option maxHeartbeats 4000000 in
theorem t_X12_qJoins_238 {Γ : gS} {d : Nat} (hd : 1 ≤ d) {s0 : Nat} {s1 : Int64} {h : aH} {r : Unit} {h' : aH} (H : f_X12_qJoins_238 s0 s1 h = some (r, h')) : Ex Γ gX12_qJoins d 238 [] [.long s1, .ref s0] h none h' := by
  unfold f_X12_qJoins_238 at H
  obtain ⟨d, rfl⟩ : ∃ e, d = e + 1 := ⟨d - 1, by omega⟩
  obtain ⟨c25, H⟩ := ko_o H
  obtain ⟨v22, h23, hc24, H⟩ := bd_o H
  refine x_callVv (As := [.long s1]) (q := (RX12, TX12, 103)) dX12_qJoins_238 mi_X12_qPuts lk_X12_376 im_X12_qPuts se_X12_qPuts rfl c25 rfl rfl (Nat.le_of_ble_eq_true rfl) (t_X12_qPuts (by omega) hc24) ?_
  refine x_goto (tgt := 273) dX12_qJoins_241 (by decide) ?_
  exact t_X12_qJoins_273 hd H
def f_X12_qJoins (x0 : Nat) (x1 : Int32) (h : aH) : Option (Unit × aH) :=
  ko h x0 11 <|
  kr (hR h x0 97) fun a27 =>
  ka h a27 .long fun n30 =>
  chk (inb ((hI h x0 98) - 1) n30 = true) <|
  nm (hL h a27 ((hI h x0 98) - 1 : Int32).toNatClampNeg) fun (v32 : Int64) =>
  chk (inb ((hI h x0 98) - 2) n30 = true) <|
  nm (hL h a27 ((hI h x0 98) - 2 : Int32).toNatClampNeg) fun (v34 : Int64) =>
  if x1 < 1 then
    f_X12_qJoins_255 x0 v32 v34 (sI h x0 98 ((hI h x0 98) - 2))
  else
  if 10 < x1 then
    f_X12_qJoins_255 x0 v32 v34 (sI h x0 98 ((hI h x0 98) - 2))
  else
  if x1 = 1 then
    bd (f_X12_qClip (v34 + v32) (sI h x0 98 ((hI h x0 98) - 2))) fun v38 h39 =>
    ko h39 x0 11 <|
    bd (f_X12_qPuts x0 v38 h39) fun _ h42 =>
    f_X12_qJoins_273 h42
  else
  if x1 = 2 then
    bd (f_X12_qClip (v34 - v32) (sI h x0 98 ((hI h x0 98) - 2))) fun v46 h47 =>
    ko h47 x0 11 <|
    bd (f_X12_qPuts x0 v46 h47) fun _ h50 =>
    f_X12_qJoins_273 h50
  else
  if x1 = 3 then
    bd (f_X12_qClip (v34 * v32) (sI h x0 98 ((hI h x0 98) - 2))) fun v54 h55 =>
    ko h55 x0 11 <|
    bd (f_X12_qPuts x0 v54 h55) fun _ h58 =>
    f_X12_qJoins_273 h58
  else
  if x1 = 4 then
    bd (f_X12_qFloor v34 v32 (sI h x0 98 ((hI h x0 98) - 2))) fun v62 h63 =>
    ko h63 x0 11 <|
    bd (f_X12_qPuts x0 v62 h63) fun _ h66 =>
    f_X12_qJoins_273 h66
  else
  if x1 = 5 then
    if 0 ≤ (lg_cmp v34 v32) then
      f_X12_qJoins_161 x0 v32 (sI h x0 98 ((hI h x0 98) - 2))
    else
      f_X12_qJoins_161 x0 v34 (sI h x0 98 ((hI h x0 98) - 2))
  else
  if x1 = 6 then
    if (lg_cmp v34 v32) ≤ 0 then
      f_X12_qJoins_181 x0 v32 (sI h x0 98 ((hI h x0 98) - 2))
    else
      f_X12_qJoins_181 x0 v34 (sI h x0 98 ((hI h x0 98) - 2))
  else
  if x1 = 7 then
    if 0 ≤ (lg_cmp v34 v32) then
      f_X12_qJoins_200 x0 0 (sI h x0 98 ((hI h x0 98) - 2))
    else
      f_X12_qJoins_200 x0 1 (sI h x0 98 ((hI h x0 98) - 2))
  else
  if x1 = 8 then
    if (lg_cmp v34 v32) ≤ 0 then
      f_X12_qJoins_219 x0 0 (sI h x0 98 ((hI h x0 98) - 2))
    else
      f_X12_qJoins_219 x0 1 (sI h x0 98 ((hI h x0 98) - 2))
  else
  if x1 = 9 then
    if (lg_cmp v34 v32) = 0 then
      f_X12_qJoins_238 x0 1 (sI h x0 98 ((hI h x0 98) - 2))
    else
      f_X12_qJoins_238 x0 0 (sI h x0 98 ((hI h x0 98) - 2))
  else
  if x1 = 10 then
    bd (f_X12_qPuts x0 (v34 * v32) (sI h x0 98 ((hI h x0 98) - 2))) fun _ h81 =>
    f_X12_qJoins_273 h81
  else
  none
set_option maxRecDepth 100000 in
set_option maxHeartbeats 4000000 in
theorem t_X12_qJoins {Γ : gS} {d : Nat} (hd : 1 ≤ d) {x0 : Nat} {x1 : Int32} {h : aH} {r : Unit} {h' : aH} (H : f_X12_qJoins x0 x1 h = some (r, h')) : Mx Γ gX12_qJoins d [.ref x0, .int x1] h none h' := by
  refine Mx.of (by decide +kernel) (Nat.le_of_ble_eq_true rfl) ?_
  unfold f_X12_qJoins at H
  show Ex Γ gX12_qJoins d 0 [(0, .ref x0), (1, .int x1)] [] h none h'
  obtain ⟨d, rfl⟩ : ∃ e, d = e + 1 := ⟨d - 1, by omega⟩
  refine x_aload_n dX12_qJoins_0 rfl 0 rfl ?_
  obtain ⟨c26, H⟩ := ko_o H
  obtain ⟨a27, c28, H⟩ := kr_o H
  refine x_getR fr_X12_216 dX12_qJoins_1 c26 rfl c28 ?_
  refine x_aload_n dX12_qJoins_4 rfl 0 rfl ?_
  refine x_getI fr_X12_373 dX12_qJoins_5 c26 rfl ?_
  refine x_iconst (v := 1) dX12_qJoins_8 (by decide) ?_
  refine x_isub dX12_qJoins_9 ?_
  obtain ⟨n30, c29, H⟩ := ka_o H
  obtain ⟨c31, H⟩ := chk_o H
  refine x_lald dX12_qJoins_10 c29 (inb_in.mp c31) ?_
  obtain ⟨v32, ev32, H⟩ := nm_o H
  refine x_lstore_n (lv' := [(2, .long v32), (0, .ref x0), (1, .int x1)]) dX12_qJoins_11 rfl (by decide) ev32 rfl ?_
  refine x_aload_n dX12_qJoins_12 rfl 1 rfl ?_
  refine x_getR fr_X12_216 dX12_qJoins_13 c26 rfl c28 ?_
  refine x_aload_n dX12_qJoins_16 rfl 1 rfl ?_
  refine x_getI fr_X12_373 dX12_qJoins_17 c26 rfl ?_
  refine x_iconst (v := 2) dX12_qJoins_20 (by decide) ?_
  refine x_isub dX12_qJoins_21 ?_
  obtain ⟨c33, H⟩ := chk_o H
  refine x_lald dX12_qJoins_22 c29 (inb_in.mp c33) ?_
  obtain ⟨v34, ev34, H⟩ := nm_o H
  refine x_lstore (lv' := [(4, .long v34), (2, .long v32), (0, .ref x0), (1, .int x1)]) dX12_qJoins_23 (by decide) ev34 rfl ?_
  refine x_aload_n dX12_qJoins_25 rfl 2 rfl ?_
  refine x_dup dX12_qJoins_26 rfl ?_
  refine x_getI fr_X12_373 dX12_qJoins_27 c26 rfl ?_
  refine x_iconst (v := 2) dX12_qJoins_30 (by decide) ?_
  refine x_isub dX12_qJoins_31 ?_
  refine x_putI fl_X12_373 dX12_qJoins_32 c26 (fun e => by cases e) rfl ?_
  refine x_iload_n dX12_qJoins_35 rfl 3 rfl ?_
  by_cases c35 : x1 < 1
  · replace H := ite_p H c35
    refine x_tableOut (tgt := 255) dX12_qJoins_36 (Or.inl (sw_lo c35 (by decide))) (by decide) ?_
    refine Ex.sub [2, 1, 0] rfl ?_
    exact t_X12_qJoins_255 hd H
  replace H := ite_m H c35
  by_cases c36 : 10 < x1
  · replace H := ite_p H c36
    refine x_tableOut (tgt := 255) dX12_qJoins_36 (Or.inr (sw_hi c36 (by decide))) (by decide) ?_
    refine Ex.sub [2, 1, 0] rfl ?_
    exact t_X12_qJoins_255 hd H
  replace H := ite_m H c36
  by_cases c37 : x1 = 1
  · replace H := ite_p H c37
    refine x_tableIn (tgt := 92) dX12_qJoins_36 (by rw [c37]; decide) (by rw [c37]; decide) (by rw [c37]; rfl) (by decide) ?_
    refine x_aload_n dX12_qJoins_92 rfl 2 rfl ?_
    refine x_lload dX12_qJoins_93 0 rfl ?_
    refine x_lload_n dX12_qJoins_95 rfl 1 rfl ?_
    refine x_ladd dX12_qJoins_96 ?_
    obtain ⟨v38, h39, hc40, H⟩ := bd_o H
    refine x_callSl (As := [.long (v34 + v32)]) dX12_qJoins_97 mi_X12_qClip lk_X12_633 sm_X12_qClip rfl rfl (Nat.le_of_ble_eq_true rfl) (t_X12_qClip (by omega) hc40) ?_
    obtain ⟨c44, H⟩ := ko_o H
    obtain ⟨v41, h42, hc43, H⟩ := bd_o H
    refine x_callVv (As := [.long v38]) (q := (RX12, TX12, 103)) dX12_qJoins_100 mi_X12_qPuts lk_X12_376 im_X12_qPuts se_X12_qPuts rfl c44 rfl rfl (Nat.le_of_ble_eq_true rfl) (t_X12_qPuts (by omega) hc43) ?_
    refine x_goto (tgt := 273) dX12_qJoins_103 (by decide) ?_
    refine Ex.sub [] rfl ?_
    exact t_X12_qJoins_273 hd H
  replace H := ite_m H c37
  by_cases c45 : x1 = 2
  · replace H := ite_p H c45
    refine x_tableIn (tgt := 106) dX12_qJoins_36 (by rw [c45]; decide) (by rw [c45]; decide) (by rw [c45]; rfl) (by decide) ?_
    refine x_aload_n dX12_qJoins_106 rfl 2 rfl ?_
    refine x_lload dX12_qJoins_107 0 rfl ?_
    refine x_lload_n dX12_qJoins_109 rfl 1 rfl ?_
    refine x_lsub dX12_qJoins_110 ?_
    obtain ⟨v46, h47, hc48, H⟩ := bd_o H
    refine x_callSl (As := [.long (v34 - v32)]) dX12_qJoins_111 mi_X12_qClip lk_X12_633 sm_X12_qClip rfl rfl (Nat.le_of_ble_eq_true rfl) (t_X12_qClip (by omega) hc48) ?_
    obtain ⟨c52, H⟩ := ko_o H
    obtain ⟨v49, h50, hc51, H⟩ := bd_o H
    refine x_callVv (As := [.long v46]) (q := (RX12, TX12, 103)) dX12_qJoins_114 mi_X12_qPuts lk_X12_376 im_X12_qPuts se_X12_qPuts rfl c52 rfl rfl (Nat.le_of_ble_eq_true rfl) (t_X12_qPuts (by omega) hc51) ?_
    refine x_goto (tgt := 273) dX12_qJoins_117 (by decide) ?_
    refine Ex.sub [] rfl ?_
    exact t_X12_qJoins_273 hd H
  replace H := ite_m H c45
  by_cases c53 : x1 = 3
  · replace H := ite_p H c53
    refine x_tableIn (tgt := 120) dX12_qJoins_36 (by rw [c53]; decide) (by rw [c53]; decide) (by rw [c53]; rfl) (by decide) ?_
    refine x_aload_n dX12_qJoins_120 rfl 2 rfl ?_
    refine x_lload dX12_qJoins_121 0 rfl ?_
    refine x_lload_n dX12_qJoins_123 rfl 1 rfl ?_
    refine x_lmul dX12_qJoins_124 ?_
    obtain ⟨v54, h55, hc56, H⟩ := bd_o H
    refine x_callSl (As := [.long (v34 * v32)]) dX12_qJoins_125 mi_X12_qClip lk_X12_633 sm_X12_qClip rfl rfl (Nat.le_of_ble_eq_true rfl) (t_X12_qClip (by omega) hc56) ?_
    obtain ⟨c60, H⟩ := ko_o H
    obtain ⟨v57, h58, hc59, H⟩ := bd_o H
    refine x_callVv (As := [.long v54]) (q := (RX12, TX12, 103)) dX12_qJoins_128 mi_X12_qPuts lk_X12_376 im_X12_qPuts se_X12_qPuts rfl c60 rfl rfl (Nat.le_of_ble_eq_true rfl) (t_X12_qPuts (by omega) hc59) ?_
    refine x_goto (tgt := 273) dX12_qJoins_131 (by decide) ?_
    refine Ex.sub [] rfl ?_
    exact t_X12_qJoins_273 hd H
  replace H := ite_m H c53
  by_cases c61 : x1 = 4
  · replace H := ite_p H c61
    refine x_tableIn (tgt := 134) dX12_qJoins_36 (by rw [c61]; decide) (by rw [c61]; decide) (by rw [c61]; rfl) (by decide) ?_
    refine x_aload_n dX12_qJoins_134 rfl 2 rfl ?_
    refine x_lload dX12_qJoins_135 0 rfl ?_
    refine x_lload_n dX12_qJoins_137 rfl 1 rfl ?_
    obtain ⟨v62, h63, hc64, H⟩ := bd_o H
    refine x_callSl (As := [.long v34, .long v32]) dX12_qJoins_138 mi_X12_qFloor lk_X12_637 sm_X12_qFloor rfl rfl (Nat.le_of_ble_eq_true rfl) (t_X12_qFloor (by omega) hc64) ?_
    obtain ⟨c68, H⟩ := ko_o H
    obtain ⟨v65, h66, hc67, H⟩ := bd_o H
    refine x_callVv (As := [.long v62]) (q := (RX12, TX12, 103)) dX12_qJoins_141 mi_X12_qPuts lk_X12_376 im_X12_qPuts se_X12_qPuts rfl c68 rfl rfl (Nat.le_of_ble_eq_true rfl) (t_X12_qPuts (by omega) hc67) ?_
    refine x_goto (tgt := 273) dX12_qJoins_144 (by decide) ?_
    refine Ex.sub [] rfl ?_
    exact t_X12_qJoins_273 hd H
  replace H := ite_m H c61
  by_cases c69 : x1 = 5
  · replace H := ite_p H c69
    refine x_tableIn (tgt := 147) dX12_qJoins_36 (by rw [c69]; decide) (by rw [c69]; decide) (by rw [c69]; rfl) (by decide) ?_
    refine x_aload_n dX12_qJoins_147 rfl 2 rfl ?_
    refine x_lload dX12_qJoins_148 0 rfl ?_
    refine x_lload_n dX12_qJoins_150 rfl 1 rfl ?_
    refine x_lcmp dX12_qJoins_151 ?_
    refine x_if_ge (tgt := 160) dX12_qJoins_152 (by decide) (fun c70 => ?_) (fun c70 => ?_)
    · replace H := ite_p H c70
      refine x_lload_n dX12_qJoins_160 rfl 1 rfl ?_
      refine Ex.sub [] rfl ?_
      exact t_X12_qJoins_161 hd H
    · replace H := ite_m H c70
      refine x_lload dX12_qJoins_155 0 rfl ?_
      refine x_goto (tgt := 161) dX12_qJoins_157 (by decide) ?_
      refine Ex.sub [] rfl ?_
      exact t_X12_qJoins_161 hd H
  replace H := ite_m H c69
  by_cases c71 : x1 = 6
  · replace H := ite_p H c71
    refine x_tableIn (tgt := 167) dX12_qJoins_36 (by rw [c71]; decide) (by rw [c71]; decide) (by rw [c71]; rfl) (by decide) ?_
    refine x_aload_n dX12_qJoins_167 rfl 2 rfl ?_
    refine x_lload dX12_qJoins_168 0 rfl ?_
    refine x_lload_n dX12_qJoins_170 rfl 1 rfl ?_
    refine x_lcmp dX12_qJoins_171 ?_
    refine x_if_le (tgt := 180) dX12_qJoins_172 (by decide) (fun c72 => ?_) (fun c72 => ?_)
    · replace H := ite_p H c72
      refine x_lload_n dX12_qJoins_180 rfl 1 rfl ?_
      refine Ex.sub [] rfl ?_
      exact t_X12_qJoins_181 hd H
    · replace H := ite_m H c72
      refine x_lload dX12_qJoins_175 0 rfl ?_
      refine x_goto (tgt := 181) dX12_qJoins_177 (by decide) ?_
      refine Ex.sub [] rfl ?_
      exact t_X12_qJoins_181 hd H
  replace H := ite_m H c71
  by_cases c73 : x1 = 7
  · replace H := ite_p H c73
    refine x_tableIn (tgt := 187) dX12_qJoins_36 (by rw [c73]; decide) (by rw [c73]; decide) (by rw [c73]; rfl) (by decide) ?_
    refine x_aload_n dX12_qJoins_187 rfl 2 rfl ?_
    refine x_lload dX12_qJoins_188 0 rfl ?_
    refine x_lload_n dX12_qJoins_190 rfl 1 rfl ?_
    refine x_lcmp dX12_qJoins_191 ?_
    refine x_if_ge (tgt := 199) dX12_qJoins_192 (by decide) (fun c74 => ?_) (fun c74 => ?_)
    · replace H := ite_p H c74
      refine x_lconst (v := 0) dX12_qJoins_199 (by decide) ?_
      refine Ex.sub [] rfl ?_
      exact t_X12_qJoins_200 hd H
    · replace H := ite_m H c74
      refine x_lconst (v := 1) dX12_qJoins_195 (by decide) ?_
      refine x_goto (tgt := 200) dX12_qJoins_196 (by decide) ?_
      refine Ex.sub [] rfl ?_
      exact t_X12_qJoins_200 hd H
  replace H := ite_m H c73
  by_cases c75 : x1 = 8
  · replace H := ite_p H c75
    refine x_tableIn (tgt := 206) dX12_qJoins_36 (by rw [c75]; decide) (by rw [c75]; decide) (by rw [c75]; rfl) (by decide) ?_
    refine x_aload_n dX12_qJoins_206 rfl 2 rfl ?_
    refine x_lload dX12_qJoins_207 0 rfl ?_
    refine x_lload_n dX12_qJoins_209 rfl 1 rfl ?_
    refine x_lcmp dX12_qJoins_210 ?_
    refine x_if_le (tgt := 218) dX12_qJoins_211 (by decide) (fun c76 => ?_) (fun c76 => ?_)
    · replace H := ite_p H c76
      refine x_lconst (v := 0) dX12_qJoins_218 (by decide) ?_
      refine Ex.sub [] rfl ?_
      exact t_X12_qJoins_219 hd H
    · replace H := ite_m H c76
      refine x_lconst (v := 1) dX12_qJoins_214 (by decide) ?_
      refine x_goto (tgt := 219) dX12_qJoins_215 (by decide) ?_
      refine Ex.sub [] rfl ?_
      exact t_X12_qJoins_219 hd H
  replace H := ite_m H c75
  by_cases c77 : x1 = 9
  · replace H := ite_p H c77
    refine x_tableIn (tgt := 225) dX12_qJoins_36 (by rw [c77]; decide) (by rw [c77]; decide) (by rw [c77]; rfl) (by decide) ?_
    refine x_aload_n dX12_qJoins_225 rfl 2 rfl ?_
    refine x_lload dX12_qJoins_226 0 rfl ?_
    refine x_lload_n dX12_qJoins_228 rfl 1 rfl ?_
    refine x_lcmp dX12_qJoins_229 ?_
    refine x_if_ne (tgt := 237) dX12_qJoins_230 (by decide) (fun c78 => ?_) (fun c78 => ?_)
    · replace H := ite_m H c78
      refine x_lconst (v := 0) dX12_qJoins_237 (by decide) ?_
      refine Ex.sub [] rfl ?_
      exact t_X12_qJoins_238 hd H
    · replace H := ite_p H c78
      refine x_lconst (v := 1) dX12_qJoins_233 (by decide) ?_
      refine x_goto (tgt := 238) dX12_qJoins_234 (by decide) ?_
      refine Ex.sub [] rfl ?_
      exact t_X12_qJoins_238 hd H
  replace H := ite_m H c77
  by_cases c79 : x1 = 10
  · replace H := ite_p H c79
    refine x_tableIn (tgt := 244) dX12_qJoins_36 (by rw [c79]; decide) (by rw [c79]; decide) (by rw [c79]; rfl) (by decide) ?_
    refine x_aload_n dX12_qJoins_244 rfl 2 rfl ?_
    refine x_lload dX12_qJoins_245 0 rfl ?_
    refine x_lload_n dX12_qJoins_247 rfl 1 rfl ?_
    refine x_lmul dX12_qJoins_248 ?_
    obtain ⟨v80, h81, hc82, H⟩ := bd_o H
    refine x_callVv (As := [.long (v34 * v32)]) (q := (RX12, TX12, 103)) dX12_qJoins_249 mi_X12_qPuts lk_X12_376 im_X12_qPuts se_X12_qPuts rfl c26 rfl rfl (Nat.le_of_ble_eq_true rfl) (t_X12_qPuts (by omega) hc82) ?_
    refine x_goto (tgt := 273) dX12_qJoins_252 (by decide) ?_
    refine Ex.sub [] rfl ?_
    exact t_X12_qJoins_273 hd H
  replace H := ite_m H c79
  cases H
def f_X12_edgeOf (x0 : Nat) (x1 : Int32) (h : aH) : Option (Int32 × aH) :=
  ko h x0 11 <|
  kr (hR h x0 47) fun a2 =>
  ka h a2 .int fun n5 =>
  chk (inb (x1 + 3) n5 = true) <|
  bd (f_X12_mantissa x0 h) fun v7 h8 =>
  ko h8 x0 11 <|
  bd (f_X12_modulo x0 ((hI h a2 (x1 + 3 : Int32).toNatClampNeg) - (1 <<< ((v7 - 2) &&& 31))) h8) fun v10 h11 =>
  some (v10, h11)
set_option maxRecDepth 100000 in
set_option maxHeartbeats 4000000 in
theorem t_X12_edgeOf {Γ : gS} {d : Nat} (hd : 2 ≤ d) {x0 : Nat} {x1 : Int32} {h : aH} {r : Int32} {h' : aH} (H : f_X12_edgeOf x0 x1 h = some (r, h')) : Mx Γ gX12_edgeOf d [.ref x0, .int x1] h (some (.int r)) h' := by
  refine Mx.of (by decide +kernel) (Nat.le_of_ble_eq_true rfl) ?_
  unfold f_X12_edgeOf at H
  show Ex Γ gX12_edgeOf d 0 [(0, .ref x0), (1, .int x1)] [] h (some (.int r)) h'
  obtain ⟨d, rfl⟩ : ∃ e, d = e + 1 := ⟨d - 1, by omega⟩
  refine x_aload_n dX12_edgeOf_0 rfl 0 rfl ?_
  refine x_aload_n dX12_edgeOf_1 rfl 0 rfl ?_
  obtain ⟨c1, H⟩ := ko_o H
  obtain ⟨a2, c3, H⟩ := kr_o H
  refine x_getR fr_X12_115 dX12_edgeOf_2 c1 rfl c3 ?_
  refine x_iload_n dX12_edgeOf_5 rfl 1 rfl ?_
  refine x_iconst (v := 3) dX12_edgeOf_6 (by decide) ?_
  refine x_iadd dX12_edgeOf_7 ?_
  obtain ⟨n5, c4, H⟩ := ka_o H
  obtain ⟨c6, H⟩ := chk_o H
  refine x_iald dX12_edgeOf_8 c4 (inb_in.mp c6) ?_
  refine x_iconst (v := 1) dX12_edgeOf_9 (by decide) ?_
  refine x_aload_n dX12_edgeOf_10 rfl 0 rfl ?_
  obtain ⟨v7, h8, hc9, H⟩ := bd_o H
  refine x_callVi (As := []) (q := (RX12, TX12, 103)) dX12_edgeOf_11 mi_X12_mantissa lk_X12_396 im_X12_mantissa se_X12_mantissa rfl c1 rfl rfl (Nat.le_of_ble_eq_true rfl) (t_X12_mantissa (by omega) hc9) ?_
  refine x_iconst (v := 2) dX12_edgeOf_14 (by decide) ?_
  refine x_isub dX12_edgeOf_15 ?_
  refine x_ishl dX12_edgeOf_16 ?_
  refine x_isub dX12_edgeOf_17 ?_
  obtain ⟨c13, H⟩ := ko_o H
  obtain ⟨v10, h11, hc12, H⟩ := bd_o H
  refine x_callVi (As := [.int ((hI h a2 (x1 + 3 : Int32).toNatClampNeg) - (1 <<< ((v7 - 2) &&& 31)))]) (q := (RX12, TX12, 103)) dX12_edgeOf_18 mi_X12_modulo lk_X12_403 im_X12_modulo se_X12_modulo rfl c13 rfl rfl (Nat.le_of_ble_eq_true rfl) (t_X12_modulo (by omega) hc12) ?_
  obtain ⟨rfl, rfl⟩ := so_1 H
  exact x_iret dX12_edgeOf_21 rfl rfl
def f_X12_baseFrom_84 (x0 : Nat) (x1 : Int32) (x3 : Int32) (s0 : Int32) (s1 : Int32) (h : aH) : Option (Int32 × aH) :=
  nm (s0 + s1) fun (v1 : Int32) =>
  ko h x0 11 <|
  bd (f_X12_mantissa x0 h) fun v2 h3 =>
  ko h3 x0 11 <|
  kr (hR h3 x0 47) fun a6 =>
  ka h3 a6 .int fun n9 =>
  chk (inb (x1 + 3) n9 = true) <|
  some (((v1 <<< ((x3 + v2) &&& 31)) + ((hI h3 a6 (x1 + 3 : Int32).toNatClampNeg) <<< (x3 &&& 31))) &&& 4095, h3)
set_option maxRecDepth 100000 in
set_option maxHeartbeats 4000000 in
theorem t_X12_baseFrom_84 {Γ : gS} {d : Nat} (hd : 3 ≤ d) {x0 : Nat} {x1 : Int32} {x3 : Int32} {s0 : Int32} {s1 : Int32} {h : aH} {r : Int32} {h' : aH} (H : f_X12_baseFrom_84 x0 x1 x3 s0 s1 h = some (r, h')) : Ex Γ gX12_baseFrom d 84 [(0, .ref x0), (1, .int x1), (3, .int x3)] [.int s1, .int s0] h (some (.int r)) h' := by
  unfold f_X12_baseFrom_84 at H
  obtain ⟨d, rfl⟩ : ∃ e, d = e + 1 := ⟨d - 1, by omega⟩
  refine x_iadd dX12_baseFrom_84 ?_
  obtain ⟨v1, ev1, H⟩ := nm_o H
  refine x_istore (lv' := [(7, .int v1), (0, .ref x0), (1, .int x1), (3, .int x3)]) dX12_baseFrom_85 (by decide) ev1 rfl ?_
  refine x_iload dX12_baseFrom_87 0 rfl ?_
  refine x_iload_n dX12_baseFrom_89 rfl 3 rfl ?_
  refine x_aload_n dX12_baseFrom_90 rfl 1 rfl ?_
  obtain ⟨c11, H⟩ := ko_o H
  obtain ⟨v2, h3, hc4, H⟩ := bd_o H
  refine x_callVi (As := []) (q := (RX12, TX12, 103)) dX12_baseFrom_91 mi_X12_mantissa lk_X12_396 im_X12_mantissa se_X12_mantissa rfl c11 rfl rfl (Nat.le_of_ble_eq_true rfl) (t_X12_mantissa (by omega) hc4) ?_
  refine x_iadd dX12_baseFrom_94 ?_
  refine x_ishl dX12_baseFrom_95 ?_
  refine x_aload_n dX12_baseFrom_96 rfl 1 rfl ?_
  obtain ⟨c5, H⟩ := ko_o H
  obtain ⟨a6, c7, H⟩ := kr_o H
  refine x_getR fr_X12_115 dX12_baseFrom_97 c5 rfl c7 ?_
  refine x_iload_n dX12_baseFrom_100 rfl 2 rfl ?_
  refine x_iconst (v := 3) dX12_baseFrom_101 (by decide) ?_
  refine x_iadd dX12_baseFrom_102 ?_
  obtain ⟨n9, c8, H⟩ := ka_o H
  obtain ⟨c10, H⟩ := chk_o H
  refine x_iald dX12_baseFrom_103 c8 (inb_in.mp c10) ?_
  refine x_iload_n dX12_baseFrom_104 rfl 3 rfl ?_
  refine x_ishl dX12_baseFrom_105 ?_
  refine x_iadd dX12_baseFrom_106 ?_
  refine x_sipush (v := 4095) dX12_baseFrom_107 (by decide) ?_
  refine x_iand dX12_baseFrom_110 ?_
  obtain ⟨rfl, rfl⟩ := so_1 H
  exact x_iret dX12_baseFrom_111 rfl rfl
def f_X12_baseFrom_53 (x0 : Nat) (x1 : Int32) (x2 : Int32) (x3 : Int32) (x5 : Int32) (s0 : Int32) (h : aH) : Option (Int32 × aH) :=
  ko h x0 11 <|
  bd (f_X12_mantissa x0 h) fun v12 h13 =>
  if x5 = s0 then
    f_X12_baseFrom_84 x0 x1 x3 (x2 >>> ((x3 + v12) &&& 31)) 0 h13
  else
    if x5 = 0 then
      f_X12_baseFrom_84 x0 x1 x3 (x2 >>> ((x3 + v12) &&& 31)) 1 h13
    else
      f_X12_baseFrom_84 x0 x1 x3 (x2 >>> ((x3 + v12) &&& 31)) (-1) h13
set_option maxRecDepth 100000 in
set_option maxHeartbeats 4000000 in
theorem t_X12_baseFrom_53 {Γ : gS} {d : Nat} (hd : 3 ≤ d) {x0 : Nat} {x1 : Int32} {x2 : Int32} {x3 : Int32} {x5 : Int32} {s0 : Int32} {h : aH} {r : Int32} {h' : aH} (H : f_X12_baseFrom_53 x0 x1 x2 x3 x5 s0 h = some (r, h')) : Ex Γ gX12_baseFrom d 53 [(0, .ref x0), (1, .int x1), (2, .int x2), (3, .int x3), (5, .int x5)] [.int s0] h (some (.int r)) h' := by
  unfold f_X12_baseFrom_53 at H
  obtain ⟨d, rfl⟩ : ∃ e, d = e + 1 := ⟨d - 1, by omega⟩
  refine x_istore (lv' := [(6, .int s0), (0, .ref x0), (1, .int x1), (2, .int x2), (3, .int x3), (5, .int x5)]) dX12_baseFrom_53 (by decide) rfl rfl ?_
  refine x_iload_n dX12_baseFrom_55 rfl 3 rfl ?_
  refine x_iload_n dX12_baseFrom_56 rfl 4 rfl ?_
  refine x_aload_n dX12_baseFrom_57 rfl 1 rfl ?_
  obtain ⟨c17, H⟩ := ko_o H
  obtain ⟨v12, h13, hc14, H⟩ := bd_o H
  refine x_callVi (As := []) (q := (RX12, TX12, 103)) dX12_baseFrom_58 mi_X12_mantissa lk_X12_396 im_X12_mantissa se_X12_mantissa rfl c17 rfl rfl (Nat.le_of_ble_eq_true rfl) (t_X12_mantissa (by omega) hc14) ?_
  refine x_iadd dX12_baseFrom_61 ?_
  refine x_ishr dX12_baseFrom_62 ?_
  refine x_iload dX12_baseFrom_63 5 rfl ?_
  refine x_iload dX12_baseFrom_65 0 rfl ?_
  refine x_icmp_ne (tgt := 74) dX12_baseFrom_67 (by decide) (fun c15 => ?_) (fun c15 => ?_)
  · replace H := ite_m H c15
    refine x_iload dX12_baseFrom_74 5 rfl ?_
    refine x_if_eq (tgt := 83) dX12_baseFrom_76 (by decide) (fun c16 => ?_) (fun c16 => ?_)
    · replace H := ite_p H c16
      refine x_iconst (v := 1) dX12_baseFrom_83 (by decide) ?_
      refine Ex.sub [1, 2, 4] rfl ?_
      exact t_X12_baseFrom_84 hd H
    · replace H := ite_m H c16
      refine x_iconst (v := (-1)) dX12_baseFrom_79 (by decide) ?_
      refine x_goto (tgt := 84) dX12_baseFrom_80 (by decide) ?_
      refine Ex.sub [1, 2, 4] rfl ?_
      exact t_X12_baseFrom_84 hd H
  · replace H := ite_p H c15
    refine x_iconst (v := 0) dX12_baseFrom_70 (by decide) ?_
    refine x_goto (tgt := 84) dX12_baseFrom_71 (by decide) ?_
    refine Ex.sub [1, 2, 4] rfl ?_
    exact t_X12_baseFrom_84 hd H
def f_X12_baseFrom_33 (x0 : Nat) (x1 : Int32) (x2 : Int32) (x3 : Int32) (x4 : Int32) (s0 : Int32) (h : aH) : Option (Int32 × aH) :=
  ko h x0 11 <|
  kr (hR h x0 47) fun a19 =>
  ka h a19 .int fun n22 =>
  chk (inb (x1 + 3) n22 = true) <|
  if x4 ≤ (hI h a19 (x1 + 3 : Int32).toNatClampNeg) then
    f_X12_baseFrom_53 x0 x1 x2 x3 s0 0 h
  else
    f_X12_baseFrom_53 x0 x1 x2 x3 s0 1 h
set_option maxRecDepth 100000 in
set_option maxHeartbeats 4000000 in
theorem t_X12_baseFrom_33 {Γ : gS} {d : Nat} (hd : 3 ≤ d) {x0 : Nat} {x1 : Int32} {x2 : Int32} {x3 : Int32} {x4 : Int32} {s0 : Int32} {h : aH} {r : Int32} {h' : aH} (H : f_X12_baseFrom_33 x0 x1 x2 x3 x4 s0 h = some (r, h')) : Ex Γ gX12_baseFrom d 33 [(0, .ref x0), (1, .int x1), (2, .int x2), (3, .int x3), (4, .int x4)] [.int s0] h (some (.int r)) h' := by
  unfold f_X12_baseFrom_33 at H
  obtain ⟨d, rfl⟩ : ∃ e, d = e + 1 := ⟨d - 1, by omega⟩
  refine x_istore (lv' := [(5, .int s0), (0, .ref x0), (1, .int x1), (2, .int x2), (3, .int x3), (4, .int x4)]) dX12_baseFrom_33 (by decide) rfl rfl ?_
  refine x_aload_n dX12_baseFrom_35 rfl 1 rfl ?_
  obtain ⟨c18, H⟩ := ko_o H
  obtain ⟨a19, c20, H⟩ := kr_o H
  refine x_getR fr_X12_115 dX12_baseFrom_36 c18 rfl c20 ?_
  refine x_iload_n dX12_baseFrom_39 rfl 2 rfl ?_
  refine x_iconst (v := 3) dX12_baseFrom_40 (by decide) ?_
  refine x_iadd dX12_baseFrom_41 ?_
  obtain ⟨n22, c21, H⟩ := ka_o H
  obtain ⟨c23, H⟩ := chk_o H
  refine x_iald dX12_baseFrom_42 c21 (inb_in.mp c23) ?_
  refine x_iload dX12_baseFrom_43 5 rfl ?_
  refine x_icmp_ge (tgt := 52) dX12_baseFrom_45 (by decide) (fun c24 => ?_) (fun c24 => ?_)
  · replace H := ite_p H c24
    refine x_iconst (v := 0) dX12_baseFrom_52 (by decide) ?_
    refine Ex.sub [1, 2, 3, 4, 0] rfl ?_
    exact t_X12_baseFrom_53 hd H
  · replace H := ite_m H c24
    refine x_iconst (v := 1) dX12_baseFrom_48 (by decide) ?_
    refine x_goto (tgt := 53) dX12_baseFrom_49 (by decide) ?_
    refine Ex.sub [1, 2, 3, 4, 0] rfl ?_
    exact t_X12_baseFrom_53 hd H
def f_X12_baseFrom (x0 : Nat) (x1 : Int32) (x2 : Int32) (h : aH) : Option (Int32 × aH) :=
  ko h x0 11 <|
  kr (hR h x0 47) fun a26 =>
  ka h a26 .int fun n29 =>
  chk (inb (x1 + 2) n29 = true) <|
  nm (hI h a26 (x1 + 2 : Int32).toNatClampNeg) fun (v31 : Int32) =>
  bd (f_X12_edgeOf x0 x1 h) fun v32 h33 =>
  ko h33 x0 11 <|
  bd (f_X12_modulo x0 (x2 >>> (v31 &&& 31)) h33) fun v35 h36 =>
  if v32 ≤ v35 then
    f_X12_baseFrom_33 x0 x1 x2 v31 v32 0 h36
  else
    f_X12_baseFrom_33 x0 x1 x2 v31 v32 1 h36
set_option maxRecDepth 100000 in
set_option maxHeartbeats 4000000 in
theorem t_X12_baseFrom {Γ : gS} {d : Nat} (hd : 3 ≤ d) {x0 : Nat} {x1 : Int32} {x2 : Int32} {h : aH} {r : Int32} {h' : aH} (H : f_X12_baseFrom x0 x1 x2 h = some (r, h')) : Mx Γ gX12_baseFrom d [.ref x0, .int x1, .int x2] h (some (.int r)) h' := by
  refine Mx.of (by decide +kernel) (Nat.le_of_ble_eq_true rfl) ?_
  unfold f_X12_baseFrom at H
  show Ex Γ gX12_baseFrom d 0 [(0, .ref x0), (1, .int x1), (2, .int x2)] [] h (some (.int r)) h'
  obtain ⟨d, rfl⟩ : ∃ e, d = e + 1 := ⟨d - 1, by omega⟩
  refine x_aload_n dX12_baseFrom_0 rfl 0 rfl ?_
  obtain ⟨c25, H⟩ := ko_o H
  obtain ⟨a26, c27, H⟩ := kr_o H
  refine x_getR fr_X12_115 dX12_baseFrom_1 c25 rfl c27 ?_
  refine x_iload_n dX12_baseFrom_4 rfl 1 rfl ?_
  refine x_iconst (v := 2) dX12_baseFrom_5 (by decide) ?_
  refine x_iadd dX12_baseFrom_6 ?_
  obtain ⟨n29, c28, H⟩ := ka_o H
  obtain ⟨c30, H⟩ := chk_o H
  refine x_iald dX12_baseFrom_7 c28 (inb_in.mp c30) ?_
  obtain ⟨v31, ev31, H⟩ := nm_o H
  refine x_istore_n (lv' := [(3, .int v31), (0, .ref x0), (1, .int x1), (2, .int x2)]) dX12_baseFrom_8 rfl (by decide) ev31 rfl ?_
  refine x_aload_n dX12_baseFrom_9 rfl 1 rfl ?_
  refine x_iload_n dX12_baseFrom_10 rfl 2 rfl ?_
  obtain ⟨v32, h33, hc34, H⟩ := bd_o H
  refine x_callVi (As := [.int x1]) (q := (RX12, TX12, 103)) dX12_baseFrom_11 mi_X12_edgeOf lk_X12_406 im_X12_edgeOf se_X12_edgeOf rfl c25 rfl rfl (Nat.le_of_ble_eq_true rfl) (t_X12_edgeOf (by omega) hc34) ?_
  refine x_istore (lv' := [(4, .int v32), (3, .int v31), (0, .ref x0), (1, .int x1), (2, .int x2)]) dX12_baseFrom_14 (by decide) rfl rfl ?_
  refine x_aload_n dX12_baseFrom_16 rfl 2 rfl ?_
  refine x_iload_n dX12_baseFrom_17 rfl 4 rfl ?_
  refine x_iload_n dX12_baseFrom_18 rfl 1 rfl ?_
  refine x_ishr dX12_baseFrom_19 ?_
  obtain ⟨c39, H⟩ := ko_o H
  obtain ⟨v35, h36, hc37, H⟩ := bd_o H
  refine x_callVi (As := [.int (x2 >>> (v31 &&& 31))]) (q := (RX12, TX12, 103)) dX12_baseFrom_20 mi_X12_modulo lk_X12_403 im_X12_modulo se_X12_modulo rfl c39 rfl rfl (Nat.le_of_ble_eq_true rfl) (t_X12_modulo (by omega) hc37) ?_
  refine x_iload dX12_baseFrom_23 0 rfl ?_
  refine x_icmp_ge (tgt := 32) dX12_baseFrom_25 (by decide) (fun c38 => ?_) (fun c38 => ?_)
  · replace H := ite_p H c38
    refine x_iconst (v := 0) dX12_baseFrom_32 (by decide) ?_
    refine Ex.sub [2, 3, 4, 1, 0] rfl ?_
    exact t_X12_baseFrom_33 hd H
  · replace H := ite_m H c38
    refine x_iconst (v := 1) dX12_baseFrom_28 (by decide) ?_
    refine x_goto (tgt := 33) dX12_baseFrom_29 (by decide) ?_
    refine Ex.sub [2, 3, 4, 1, 0] rfl ?_
    exact t_X12_baseFrom_33 hd H
def f_X12_baseOf (x0 : Nat) (x1 : Int32) (h : aH) : Option (Int32 × aH) :=
  ko h x0 11 <|
  kr (hR h x0 47) fun a2 =>
  ka h a2 .int fun n5 =>
  chk (inb (x1 + 1) n5 = true) <|
  bd (f_X12_baseFrom x0 x1 (hI h a2 (x1 + 1 : Int32).toNatClampNeg) h) fun v7 h8 =>
  some (v7, h8)
set_option maxRecDepth 100000 in
set_option maxHeartbeats 4000000 in
theorem t_X12_baseOf {Γ : gS} {d : Nat} (hd : 4 ≤ d) {x0 : Nat} {x1 : Int32} {h : aH} {r : Int32} {h' : aH} (H : f_X12_baseOf x0 x1 h = some (r, h')) : Mx Γ gX12_baseOf d [.ref x0, .int x1] h (some (.int r)) h' := by
  refine Mx.of (by decide +kernel) (Nat.le_of_ble_eq_true rfl) ?_
  unfold f_X12_baseOf at H
  show Ex Γ gX12_baseOf d 0 [(0, .ref x0), (1, .int x1)] [] h (some (.int r)) h'
  obtain ⟨d, rfl⟩ : ∃ e, d = e + 1 := ⟨d - 1, by omega⟩
  refine x_aload_n dX12_baseOf_0 rfl 0 rfl ?_
  refine x_iload_n dX12_baseOf_1 rfl 1 rfl ?_
  refine x_aload_n dX12_baseOf_2 rfl 0 rfl ?_
  obtain ⟨c1, H⟩ := ko_o H
  obtain ⟨a2, c3, H⟩ := kr_o H
  refine x_getR fr_X12_115 dX12_baseOf_3 c1 rfl c3 ?_
  refine x_iload_n dX12_baseOf_6 rfl 1 rfl ?_
  refine x_iconst (v := 1) dX12_baseOf_7 (by decide) ?_
  refine x_iadd dX12_baseOf_8 ?_
  obtain ⟨n5, c4, H⟩ := ka_o H
  obtain ⟨c6, H⟩ := chk_o H
  refine x_iald dX12_baseOf_9 c4 (inb_in.mp c6) ?_
  obtain ⟨v7, h8, hc9, H⟩ := bd_o H
  refine x_callVi (As := [.int x1, .int (hI h a2 (x1 + 1 : Int32).toNatClampNeg)]) (q := (RX12, TX12, 103)) dX12_baseOf_10 mi_X12_baseFrom lk_X12_409 im_X12_baseFrom se_X12_baseFrom rfl c1 rfl rfl (Nat.le_of_ble_eq_true rfl) (t_X12_baseFrom (by omega) hc9) ?_
  obtain ⟨rfl, rfl⟩ := so_1 H
  exact x_iret dX12_baseOf_13 rfl rfl
def f_X12_lengthOf (x0 : Nat) (x1 : Int32) (h : aH) : Option (Int32 × aH) :=
  ko h x0 11 <|
  kr (hR h x0 47) fun a2 =>
  ka h a2 .int fun n5 =>
  chk (inb (x1 + 4) n5 = true) <|
  chk (inb (x1 + 3) n5 = true) <|
  bd (f_X12_modulo x0 ((hI h a2 (x1 + 4 : Int32).toNatClampNeg) - (hI h a2 (x1 + 3 : Int32).toNatClampNeg)) h) fun v8 h9 =>
  ko h9 x0 11 <|
  kr (hR h9 x0 47) fun a12 =>
  ka h9 a12 .int fun n15 =>
  chk (inb (x1 + 2) n15 = true) <|
  some (v8 <<< ((hI h9 a12 (x1 + 2 : Int32).toNatClampNeg) &&& 31), h9)
set_option maxRecDepth 100000 in
set_option maxHeartbeats 4000000 in
theorem t_X12_lengthOf {Γ : gS} {d : Nat} (hd : 2 ≤ d) {x0 : Nat} {x1 : Int32} {h : aH} {r : Int32} {h' : aH} (H : f_X12_lengthOf x0 x1 h = some (r, h')) : Mx Γ gX12_lengthOf d [.ref x0, .int x1] h (some (.int r)) h' := by
  refine Mx.of (by decide +kernel) (Nat.le_of_ble_eq_true rfl) ?_
  unfold f_X12_lengthOf at H
  show Ex Γ gX12_lengthOf d 0 [(0, .ref x0), (1, .int x1)] [] h (some (.int r)) h'
  obtain ⟨d, rfl⟩ : ∃ e, d = e + 1 := ⟨d - 1, by omega⟩
  refine x_aload_n dX12_lengthOf_0 rfl 0 rfl ?_
  refine x_aload_n dX12_lengthOf_1 rfl 0 rfl ?_
  obtain ⟨c1, H⟩ := ko_o H
  obtain ⟨a2, c3, H⟩ := kr_o H
  refine x_getR fr_X12_115 dX12_lengthOf_2 c1 rfl c3 ?_
  refine x_iload_n dX12_lengthOf_5 rfl 1 rfl ?_
  refine x_iconst (v := 4) dX12_lengthOf_6 (by decide) ?_
  refine x_iadd dX12_lengthOf_7 ?_
  obtain ⟨n5, c4, H⟩ := ka_o H
  obtain ⟨c6, H⟩ := chk_o H
  refine x_iald dX12_lengthOf_8 c4 (inb_in.mp c6) ?_
  refine x_aload_n dX12_lengthOf_9 rfl 0 rfl ?_
  refine x_getR fr_X12_115 dX12_lengthOf_10 c1 rfl c3 ?_
  refine x_iload_n dX12_lengthOf_13 rfl 1 rfl ?_
  refine x_iconst (v := 3) dX12_lengthOf_14 (by decide) ?_
  refine x_iadd dX12_lengthOf_15 ?_
  obtain ⟨c7, H⟩ := chk_o H
  refine x_iald dX12_lengthOf_16 c4 (inb_in.mp c7) ?_
  refine x_isub dX12_lengthOf_17 ?_
  obtain ⟨v8, h9, hc10, H⟩ := bd_o H
  refine x_callVi (As := [.int ((hI h a2 (x1 + 4 : Int32).toNatClampNeg) - (hI h a2 (x1 + 3 : Int32).toNatClampNeg))]) (q := (RX12, TX12, 103)) dX12_lengthOf_18 mi_X12_modulo lk_X12_403 im_X12_modulo se_X12_modulo rfl c1 rfl rfl (Nat.le_of_ble_eq_true rfl) (t_X12_modulo (by omega) hc10) ?_
  refine x_aload_n dX12_lengthOf_21 rfl 0 rfl ?_
  obtain ⟨c11, H⟩ := ko_o H
  obtain ⟨a12, c13, H⟩ := kr_o H
  refine x_getR fr_X12_115 dX12_lengthOf_22 c11 rfl c13 ?_
  refine x_iload_n dX12_lengthOf_25 rfl 1 rfl ?_
  refine x_iconst (v := 2) dX12_lengthOf_26 (by decide) ?_
  refine x_iadd dX12_lengthOf_27 ?_
  obtain ⟨n15, c14, H⟩ := ka_o H
  obtain ⟨c16, H⟩ := chk_o H
  refine x_iald dX12_lengthOf_28 c14 (inb_in.mp c16) ?_
  refine x_ishl dX12_lengthOf_29 ?_
  obtain ⟨rfl, rfl⟩ := so_1 H
  exact x_iret dX12_lengthOf_30 rfl rfl
def f_X12_qPartOf_192 (s0 : Int64) (h : aH) : Option (Int64 × aH) :=
  some (s0, h)
set_option maxRecDepth 100000 in
set_option maxHeartbeats 4000000 in
theorem t_X12_qPartOf_192 {Γ : gS} {d : Nat} (hd : 5 ≤ d) {s0 : Int64} {h : aH} {r : Int64} {h' : aH} (H : f_X12_qPartOf_192 s0 h = some (r, h')) : Ex Γ gX12_qPartOf d 192 [] [.long s0] h (some (.long r)) h' := by
  unfold f_X12_qPartOf_192 at H
  obtain ⟨d, rfl⟩ : ∃ e, d = e + 1 := ⟨d - 1, by omega⟩
  obtain ⟨rfl, rfl⟩ := so_1 H
  exact x_lret dX12_qPartOf_192 rfl
def f_X12_qPartOf_171 (x0 : Nat) (h : aH) : Option (Int64 × aH) :=
  ko h x0 11 <|
  kr (hR h x0 47) fun a2 =>
  ka h a2 .int fun n5 =>
  chk (inb (8 * (hI h x0 48)) n5 = true) <|
  if (hI h a2 (8 * (hI h x0 48) : Int32).toNatClampNeg) = 1 then
    f_X12_qPartOf_192 1 h
  else
    f_X12_qPartOf_192 0 h
set_option maxRecDepth 100000 in
set_option maxHeartbeats 4000000 in
theorem t_X12_qPartOf_171 {Γ : gS} {d : Nat} (hd : 5 ≤ d) {x0 : Nat} {h : aH} {r : Int64} {h' : aH} (H : f_X12_qPartOf_171 x0 h = some (r, h')) : Ex Γ gX12_qPartOf d 171 [(0, .ref x0)] [] h (some (.long r)) h' := by
  unfold f_X12_qPartOf_171 at H
  obtain ⟨d, rfl⟩ : ∃ e, d = e + 1 := ⟨d - 1, by omega⟩
  refine x_aload_n dX12_qPartOf_171 rfl 0 rfl ?_
  obtain ⟨c1, H⟩ := ko_o H
  obtain ⟨a2, c3, H⟩ := kr_o H
  refine x_getR fr_X12_115 dX12_qPartOf_172 c1 rfl c3 ?_
  refine x_bipush (v := 8) dX12_qPartOf_175 (by decide) ?_
  refine x_aload_n dX12_qPartOf_177 rfl 0 rfl ?_
  refine x_getI fr_X12_551 dX12_qPartOf_178 c1 rfl ?_
  refine x_imul dX12_qPartOf_181 ?_
  obtain ⟨n5, c4, H⟩ := ka_o H
  obtain ⟨c6, H⟩ := chk_o H
  refine x_iald dX12_qPartOf_182 c4 (inb_in.mp c6) ?_
  refine x_iconst (v := 1) dX12_qPartOf_183 (by decide) ?_
  refine x_icmp_ne (tgt := 191) dX12_qPartOf_184 (by decide) (fun c7 => ?_) (fun c7 => ?_)
  · replace H := ite_m H c7
    refine x_lconst (v := 0) dX12_qPartOf_191 (by decide) ?_
    refine Ex.sub [] rfl ?_
    exact t_X12_qPartOf_192 hd H
  · replace H := ite_p H c7
    refine x_lconst (v := 1) dX12_qPartOf_187 (by decide) ?_
    refine x_goto (tgt := 192) dX12_qPartOf_188 (by decide) ?_
    refine Ex.sub [] rfl ?_
    exact t_X12_qPartOf_192 hd H
def f_X12_qPartOf (x0 : Nat) (x1 : Int32) (x2 : Int32) (h : aH) : Option (Int64 × aH) :=
  if x1 < 0 then
    f_X12_qPartOf_171 x0 h
  else
  if 9 < x1 then
    f_X12_qPartOf_171 x0 h
  else
  if x1 = 0 then
    ko h x0 11 <|
    some ((hI h x0 49 : Int32).toInt64, h)
  else
  if x1 = 1 then
    ko h x0 11 <|
    some ((hI h x0 50 : Int32).toInt64, h)
  else
  if x1 = 2 then
    ko h x0 11 <|
    some ((hI h x0 51 : Int32).toInt64, h)
  else
  if x1 = 3 then
    ko h x0 11 <|
    kr (hR h x0 47) fun a18 =>
    ka h a18 .int fun n21 =>
    chk (inb ((8 * (hI h x0 48)) + 1) n21 = true) <|
    some ((hI h a18 ((8 * (hI h x0 48)) + 1 : Int32).toNatClampNeg : Int32).toInt64, h)
  else
  if x1 = 4 then
    ko h x0 11 <|
    bd (f_X12_baseOf x0 (8 * (hI h x0 48)) h) fun v25 h26 =>
    some (v25.toInt64, h26)
  else
  if x1 = 5 then
    ko h x0 11 <|
    bd (f_X12_lengthOf x0 (8 * (hI h x0 48)) h) fun v30 h31 =>
    some (v30.toInt64, h31)
  else
  if x1 = 6 then
    ko h x0 11 <|
    kr (hR h x0 47) fun a35 =>
    ka h a35 .int fun n38 =>
    chk (inb ((8 * (hI h x0 48)) + 5) n38 = true) <|
    some ((hI h a35 ((8 * (hI h x0 48)) + 5 : Int32).toNatClampNeg : Int32).toInt64, h)
  else
  if x1 = 7 then
    ko h x0 11 <|
    some ((hI h x0 48 : Int32).toInt64, h)
  else
  if x1 = 8 then
    ko h x0 11 <|
    kr (hR h x0 47) fun a44 =>
    ka h a44 .int fun n47 =>
    chk (inb ((8 * (hI h x0 48)) + 2) n47 = true) <|
    some ((hI h a44 ((8 * (hI h x0 48)) + 2 : Int32).toNatClampNeg : Int32).toInt64, h)
  else
  if x1 = 9 then
    ko h x0 11 <|
    kr (hR h x0 47) fun a51 =>
    ka h a51 .int fun n54 =>
    chk (inb ((8 * (hI h x0 48)) + 6) n54 = true) <|
    some ((hI h a51 ((8 * (hI h x0 48)) + 6 : Int32).toNatClampNeg : Int32).toInt64, h)
  else
  none
set_option maxRecDepth 100000 in
set_option maxHeartbeats 4000000 in
theorem t_X12_qPartOf {Γ : gS} {d : Nat} (hd : 5 ≤ d) {x0 : Nat} {x1 : Int32} {x2 : Int32} {h : aH} {r : Int64} {h' : aH} (H : f_X12_qPartOf x0 x1 x2 h = some (r, h')) : Mx Γ gX12_qPartOf d [.ref x0, .int x1, .int x2] h (some (.long r)) h' := by
  refine Mx.of (by decide +kernel) (Nat.le_of_ble_eq_true rfl) ?_
  unfold f_X12_qPartOf at H
  show Ex Γ gX12_qPartOf d 0 [(0, .ref x0), (1, .int x1), (2, .int x2)] [] h (some (.long r)) h'
  obtain ⟨d, rfl⟩ : ∃ e, d = e + 1 := ⟨d - 1, by omega⟩
  refine x_iload_n dX12_qPartOf_0 rfl 1 rfl ?_
  by_cases c8 : x1 < 0
  · replace H := ite_p H c8
    refine x_tableOut (tgt := 171) dX12_qPartOf_1 (Or.inl (sw_lo c8 (by decide))) (by decide) ?_
    refine Ex.sub [0] rfl ?_
    exact t_X12_qPartOf_171 hd H
  replace H := ite_m H c8
  by_cases c9 : 9 < x1
  · replace H := ite_p H c9
    refine x_tableOut (tgt := 171) dX12_qPartOf_1 (Or.inr (sw_hi c9 (by decide))) (by decide) ?_
    refine Ex.sub [0] rfl ?_
    exact t_X12_qPartOf_171 hd H
  replace H := ite_m H c9
  by_cases c10 : x1 = 0
  · replace H := ite_p H c10
    refine x_tableIn (tgt := 56) dX12_qPartOf_1 (by rw [c10]; decide) (by rw [c10]; decide) (by rw [c10]; rfl) (by decide) ?_
    refine x_aload_n dX12_qPartOf_56 rfl 0 rfl ?_
    obtain ⟨c11, H⟩ := ko_o H
    refine x_getI fr_X12_431 dX12_qPartOf_57 c11 rfl ?_
    refine x_i2l dX12_qPartOf_60 ?_
    obtain ⟨rfl, rfl⟩ := so_1 H
    exact x_lret dX12_qPartOf_61 rfl
  replace H := ite_m H c10
  by_cases c12 : x1 = 1
  · replace H := ite_p H c12
    refine x_tableIn (tgt := 62) dX12_qPartOf_1 (by rw [c12]; decide) (by rw [c12]; decide) (by rw [c12]; rfl) (by decide) ?_
    refine x_aload_n dX12_qPartOf_62 rfl 0 rfl ?_
    obtain ⟨c13, H⟩ := ko_o H
    refine x_getI fr_X12_451 dX12_qPartOf_63 c13 rfl ?_
    refine x_i2l dX12_qPartOf_66 ?_
    obtain ⟨rfl, rfl⟩ := so_1 H
    exact x_lret dX12_qPartOf_67 rfl
  replace H := ite_m H c12
  by_cases c14 : x1 = 2
  · replace H := ite_p H c14
    refine x_tableIn (tgt := 68) dX12_qPartOf_1 (by rw [c14]; decide) (by rw [c14]; decide) (by rw [c14]; rfl) (by decide) ?_
    refine x_aload_n dX12_qPartOf_68 rfl 0 rfl ?_
    obtain ⟨c15, H⟩ := ko_o H
    refine x_getI fr_X12_454 dX12_qPartOf_69 c15 rfl ?_
    refine x_i2l dX12_qPartOf_72 ?_
    obtain ⟨rfl, rfl⟩ := so_1 H
    exact x_lret dX12_qPartOf_73 rfl
  replace H := ite_m H c14
  by_cases c16 : x1 = 3
  · replace H := ite_p H c16
    refine x_tableIn (tgt := 74) dX12_qPartOf_1 (by rw [c16]; decide) (by rw [c16]; decide) (by rw [c16]; rfl) (by decide) ?_
    refine x_aload_n dX12_qPartOf_74 rfl 0 rfl ?_
    obtain ⟨c17, H⟩ := ko_o H
    obtain ⟨a18, c19, H⟩ := kr_o H
    refine x_getR fr_X12_115 dX12_qPartOf_75 c17 rfl c19 ?_
    refine x_bipush (v := 8) dX12_qPartOf_78 (by decide) ?_
    refine x_aload_n dX12_qPartOf_80 rfl 0 rfl ?_
    refine x_getI fr_X12_551 dX12_qPartOf_81 c17 rfl ?_
    refine x_imul dX12_qPartOf_84 ?_
    refine x_iconst (v := 1) dX12_qPartOf_85 (by decide) ?_
    refine x_iadd dX12_qPartOf_86 ?_
    obtain ⟨n21, c20, H⟩ := ka_o H
    obtain ⟨c22, H⟩ := chk_o H
    refine x_iald dX12_qPartOf_87 c20 (inb_in.mp c22) ?_
    refine x_i2l dX12_qPartOf_88 ?_
    obtain ⟨rfl, rfl⟩ := so_1 H
    exact x_lret dX12_qPartOf_89 rfl
  replace H := ite_m H c16
  by_cases c23 : x1 = 4
  · replace H := ite_p H c23
    refine x_tableIn (tgt := 90) dX12_qPartOf_1 (by rw [c23]; decide) (by rw [c23]; decide) (by rw [c23]; rfl) (by decide) ?_
    refine x_aload_n dX12_qPartOf_90 rfl 0 rfl ?_
    refine x_bipush (v := 8) dX12_qPartOf_91 (by decide) ?_
    refine x_aload_n dX12_qPartOf_93 rfl 0 rfl ?_
    obtain ⟨c24, H⟩ := ko_o H
    refine x_getI fr_X12_551 dX12_qPartOf_94 c24 rfl ?_
    refine x_imul dX12_qPartOf_97 ?_
    obtain ⟨v25, h26, hc27, H⟩ := bd_o H
    refine x_callVi (As := [.int (8 * (hI h x0 48))]) (q := (RX12, TX12, 103)) dX12_qPartOf_98 mi_X12_baseOf lk_X12_412 im_X12_baseOf se_X12_baseOf rfl c24 rfl rfl (Nat.le_of_ble_eq_true rfl) (t_X12_baseOf (by omega) hc27) ?_
    refine x_i2l dX12_qPartOf_101 ?_
    obtain ⟨rfl, rfl⟩ := so_1 H
    exact x_lret dX12_qPartOf_102 rfl
  replace H := ite_m H c23
  by_cases c28 : x1 = 5
  · replace H := ite_p H c28
    refine x_tableIn (tgt := 103) dX12_qPartOf_1 (by rw [c28]; decide) (by rw [c28]; decide) (by rw [c28]; rfl) (by decide) ?_
    refine x_aload_n dX12_qPartOf_103 rfl 0 rfl ?_
    refine x_bipush (v := 8) dX12_qPartOf_104 (by decide) ?_
    refine x_aload_n dX12_qPartOf_106 rfl 0 rfl ?_
    obtain ⟨c29, H⟩ := ko_o H
    refine x_getI fr_X12_551 dX12_qPartOf_107 c29 rfl ?_
    refine x_imul dX12_qPartOf_110 ?_
    obtain ⟨v30, h31, hc32, H⟩ := bd_o H
    refine x_callVi (As := [.int (8 * (hI h x0 48))]) (q := (RX12, TX12, 103)) dX12_qPartOf_111 mi_X12_lengthOf lk_X12_415 im_X12_lengthOf se_X12_lengthOf rfl c29 rfl rfl (Nat.le_of_ble_eq_true rfl) (t_X12_lengthOf (by omega) hc32) ?_
    refine x_i2l dX12_qPartOf_114 ?_
    obtain ⟨rfl, rfl⟩ := so_1 H
    exact x_lret dX12_qPartOf_115 rfl
  replace H := ite_m H c28
  by_cases c33 : x1 = 6
  · replace H := ite_p H c33
    refine x_tableIn (tgt := 116) dX12_qPartOf_1 (by rw [c33]; decide) (by rw [c33]; decide) (by rw [c33]; rfl) (by decide) ?_
    refine x_aload_n dX12_qPartOf_116 rfl 0 rfl ?_
    obtain ⟨c34, H⟩ := ko_o H
    obtain ⟨a35, c36, H⟩ := kr_o H
    refine x_getR fr_X12_115 dX12_qPartOf_117 c34 rfl c36 ?_
    refine x_bipush (v := 8) dX12_qPartOf_120 (by decide) ?_
    refine x_aload_n dX12_qPartOf_122 rfl 0 rfl ?_
    refine x_getI fr_X12_551 dX12_qPartOf_123 c34 rfl ?_
    refine x_imul dX12_qPartOf_126 ?_
    refine x_iconst (v := 5) dX12_qPartOf_127 (by decide) ?_
    refine x_iadd dX12_qPartOf_128 ?_
    obtain ⟨n38, c37, H⟩ := ka_o H
    obtain ⟨c39, H⟩ := chk_o H
    refine x_iald dX12_qPartOf_129 c37 (inb_in.mp c39) ?_
    refine x_i2l dX12_qPartOf_130 ?_
    obtain ⟨rfl, rfl⟩ := so_1 H
    exact x_lret dX12_qPartOf_131 rfl
  replace H := ite_m H c33
  by_cases c40 : x1 = 7
  · replace H := ite_p H c40
    refine x_tableIn (tgt := 132) dX12_qPartOf_1 (by rw [c40]; decide) (by rw [c40]; decide) (by rw [c40]; rfl) (by decide) ?_
    refine x_aload_n dX12_qPartOf_132 rfl 0 rfl ?_
    obtain ⟨c41, H⟩ := ko_o H
    refine x_getI fr_X12_551 dX12_qPartOf_133 c41 rfl ?_
    refine x_i2l dX12_qPartOf_136 ?_
    obtain ⟨rfl, rfl⟩ := so_1 H
    exact x_lret dX12_qPartOf_137 rfl
  replace H := ite_m H c40
  by_cases c42 : x1 = 8
  · replace H := ite_p H c42
    refine x_tableIn (tgt := 138) dX12_qPartOf_1 (by rw [c42]; decide) (by rw [c42]; decide) (by rw [c42]; rfl) (by decide) ?_
    refine x_aload_n dX12_qPartOf_138 rfl 0 rfl ?_
    obtain ⟨c43, H⟩ := ko_o H
    obtain ⟨a44, c45, H⟩ := kr_o H
    refine x_getR fr_X12_115 dX12_qPartOf_139 c43 rfl c45 ?_
    refine x_bipush (v := 8) dX12_qPartOf_142 (by decide) ?_
    refine x_aload_n dX12_qPartOf_144 rfl 0 rfl ?_
    refine x_getI fr_X12_551 dX12_qPartOf_145 c43 rfl ?_
    refine x_imul dX12_qPartOf_148 ?_
    refine x_iconst (v := 2) dX12_qPartOf_149 (by decide) ?_
    refine x_iadd dX12_qPartOf_150 ?_
    obtain ⟨n47, c46, H⟩ := ka_o H
    obtain ⟨c48, H⟩ := chk_o H
    refine x_iald dX12_qPartOf_151 c46 (inb_in.mp c48) ?_
    refine x_i2l dX12_qPartOf_152 ?_
    obtain ⟨rfl, rfl⟩ := so_1 H
    exact x_lret dX12_qPartOf_153 rfl
  replace H := ite_m H c42
  by_cases c49 : x1 = 9
  · replace H := ite_p H c49
    refine x_tableIn (tgt := 154) dX12_qPartOf_1 (by rw [c49]; decide) (by rw [c49]; decide) (by rw [c49]; rfl) (by decide) ?_
    refine x_aload_n dX12_qPartOf_154 rfl 0 rfl ?_
    obtain ⟨c50, H⟩ := ko_o H
    obtain ⟨a51, c52, H⟩ := kr_o H
    refine x_getR fr_X12_115 dX12_qPartOf_155 c50 rfl c52 ?_
    refine x_bipush (v := 8) dX12_qPartOf_158 (by decide) ?_
    refine x_aload_n dX12_qPartOf_160 rfl 0 rfl ?_
    refine x_getI fr_X12_551 dX12_qPartOf_161 c50 rfl ?_
    refine x_imul dX12_qPartOf_164 ?_
    refine x_bipush (v := 6) dX12_qPartOf_165 (by decide) ?_
    refine x_iadd dX12_qPartOf_167 ?_
    obtain ⟨n54, c53, H⟩ := ka_o H
    obtain ⟨c55, H⟩ := chk_o H
    refine x_iald dX12_qPartOf_168 c53 (inb_in.mp c55) ?_
    refine x_i2l dX12_qPartOf_169 ?_
    obtain ⟨rfl, rfl⟩ := so_1 H
    exact x_lret dX12_qPartOf_170 rfl
  replace H := ite_m H c49
  cases H
def f_X12_codesTell_136 (k19 : Nat → Int32 → Int32 → aH → Option (Int64 × aH)) (x0 : Nat) (x1 : Int32) (x2 : Int32) (h : aH) : Option (Int64 × aH) :=
  nm (x2 + 1) fun (v1 : Int32) =>
  k19 x0 x1 v1 h
set_option maxRecDepth 100000 in
set_option maxHeartbeats 4000000 in
theorem t_X12_codesTell_136 {Γ : gS} {d : Nat} (hd : 6 ≤ d) {k19 : Nat → Int32 → Int32 → aH → Option (Int64 × aH)} (hk19 : ∀ {x0 : Nat} {x1 : Int32} {x2 : Int32} {h : aH} {r : Int64} {h' : aH}, k19 x0 x1 x2 h = some (r, h') → Ex Γ gX12_codesTell d 19 [(0, .ref x0), (1, .int x1), (2, .int x2)] [] h (some (.long r)) h') {x0 : Nat} {x1 : Int32} {x2 : Int32} {h : aH} {r : Int64} {h' : aH} (H : f_X12_codesTell_136 k19 x0 x1 x2 h = some (r, h')) : Ex Γ gX12_codesTell d 136 [(0, .ref x0), (1, .int x1), (2, .int x2)] [] h (some (.long r)) h' := by
  unfold f_X12_codesTell_136 at H
  obtain ⟨d, rfl⟩ : ∃ e, d = e + 1 := ⟨d - 1, by omega⟩
  obtain ⟨v1, ev1, H⟩ := nm_o H
  refine x_iinc (v := v1) (lv' := [(2, .int v1), (0, .ref x0), (1, .int x1)]) dX12_codesTell_136 2 rfl (by decide) ev1 rfl ?_
  refine x_goto (tgt := 19) dX12_codesTell_139 (by decide) ?_
  refine Ex.sub [1, 2, 0] rfl ?_
  exact hk19 H
def b_X12_codesTell_19 (k19 : Nat → Int32 → Int32 → aH → Option (Int64 × aH)) (x0 : Nat) (x1 : Int32) (x2 : Int32) (h : aH) : Option (Int64 × aH) :=
  ko h x0 11 <|
  kr (hR h x0 41) fun a3 =>
  ka h a3 .int fun n6 =>
  chk (inb (3 + x1) n6 = true) <|
  if (hI h a3 (3 + x1 : Int32).toNatClampNeg) ≤ x2 then
    kr (hR h x0 97) fun a9 =>
    ka h a9 .long fun n12 =>
    chk (inb 0 n12 = true) <|
    some (hL h a9 (0 : Int32).toNatClampNeg, h)
  else
    kr (hR h x0 42) fun a14 =>
    ka h a14 .int fun n17 =>
    chk (inb (1600 + x2) n17 = true) <|
    nm (hI h a14 (1600 + x2 : Int32).toNatClampNeg) fun (v19 : Int32) =>
    if v19 < 1000 then
      if v19 < 40 then
        if v19 = 13 then
          bd (f_X12_qPuts x0 1 h) fun _ h33 =>
          f_X12_codesTell_136 k19 x0 x1 x2 h33
        else
          if v19 = 12 then
            kr (hR h x0 97) fun a27 =>
            ka h a27 .long fun n30 =>
            chk (inb ((hI h x0 98) - 1) n30 = true) <|
            f_X12_codesTell_136 k19 x0 x1 x2 (sL h a27 ((hI h x0 98) - 1 : Int32).toNatClampNeg (1 - (hL h a27 ((hI h x0 98) - 1 : Int32).toNatClampNeg)))
          else
            bd (f_X12_qJoins x0 v19 h) fun _ h25 =>
            f_X12_codesTell_136 k19 x0 x1 x2 h25
      else
        bd (f_X12_qPartOf x0 (v19 - 40) 0 h) fun v35 h36 =>
        ko h36 x0 11 <|
        bd (f_X12_qPuts x0 v35 h36) fun _ h39 =>
        f_X12_codesTell_136 k19 x0 x1 x2 h39
    else
      bd (f_X12_qPuts x0 ((v19 - 1000 : Int32).toInt64) h) fun _ h43 =>
      f_X12_codesTell_136 k19 x0 x1 x2 h43
set_option maxRecDepth 100000 in
set_option maxHeartbeats 4000000 in
theorem tb_X12_codesTell_19 {Γ : gS} {d : Nat} (hd : 6 ≤ d) {k19 : Nat → Int32 → Int32 → aH → Option (Int64 × aH)} (hk19 : ∀ {x0 : Nat} {x1 : Int32} {x2 : Int32} {h : aH} {r : Int64} {h' : aH}, k19 x0 x1 x2 h = some (r, h') → Ex Γ gX12_codesTell d 19 [(0, .ref x0), (1, .int x1), (2, .int x2)] [] h (some (.long r)) h') {x0 : Nat} {x1 : Int32} {x2 : Int32} {h : aH} {r : Int64} {h' : aH} (H : b_X12_codesTell_19 k19 x0 x1 x2 h = some (r, h')) : Ex Γ gX12_codesTell d 19 [(0, .ref x0), (1, .int x1), (2, .int x2)] [] h (some (.long r)) h' := by
  unfold b_X12_codesTell_19 at H
  obtain ⟨d, rfl⟩ : ∃ e, d = e + 1 := ⟨d - 1, by omega⟩
  refine x_iload_n dX12_codesTell_19 rfl 2 rfl ?_
  refine x_aload_n dX12_codesTell_20 rfl 0 rfl ?_
  obtain ⟨c2, H⟩ := ko_o H
  obtain ⟨a3, c4, H⟩ := kr_o H
  refine x_getR fr_X12_109 dX12_codesTell_21 c2 rfl c4 ?_
  refine x_iconst (v := 3) dX12_codesTell_24 (by decide) ?_
  refine x_iload_n dX12_codesTell_25 rfl 1 rfl ?_
  refine x_iadd dX12_codesTell_26 ?_
  obtain ⟨n6, c5, H⟩ := ka_o H
  obtain ⟨c7, H⟩ := chk_o H
  refine x_iald dX12_codesTell_27 c5 (inb_in.mp c7) ?_
  refine x_icmp_ge (tgt := 142) dX12_codesTell_28 (by decide) (fun c8 => ?_) (fun c8 => ?_)
  · replace H := ite_p H c8
    refine x_aload_n dX12_codesTell_142 rfl 0 rfl ?_
    obtain ⟨a9, c10, H⟩ := kr_o H
    refine x_getR fr_X12_216 dX12_codesTell_143 c2 rfl c10 ?_
    refine x_iconst (v := 0) dX12_codesTell_146 (by decide) ?_
    obtain ⟨n12, c11, H⟩ := ka_o H
    obtain ⟨c13, H⟩ := chk_o H
    refine x_lald dX12_codesTell_147 c11 (inb_in.mp c13) ?_
    obtain ⟨rfl, rfl⟩ := so_1 H
    exact x_lret dX12_codesTell_148 rfl
  · replace H := ite_m H c8
    refine x_aload_n dX12_codesTell_31 rfl 0 rfl ?_
    obtain ⟨a14, c15, H⟩ := kr_o H
    refine x_getR fr_X12_112 dX12_codesTell_32 c2 rfl c15 ?_
    refine x_sipush (v := 1600) dX12_codesTell_35 (by decide) ?_
    refine x_iload_n dX12_codesTell_38 rfl 2 rfl ?_
    refine x_iadd dX12_codesTell_39 ?_
    obtain ⟨n17, c16, H⟩ := ka_o H
    obtain ⟨c18, H⟩ := chk_o H
    refine x_iald dX12_codesTell_40 c16 (inb_in.mp c18) ?_
    obtain ⟨v19, ev19, H⟩ := nm_o H
    refine x_istore_n (lv' := [(3, .int v19), (0, .ref x0), (1, .int x1), (2, .int x2)]) dX12_codesTell_41 rfl (by decide) ev19 rfl ?_
    refine x_iload_n dX12_codesTell_42 rfl 0 rfl ?_
    refine x_sipush (v := 1000) dX12_codesTell_43 (by decide) ?_
    refine x_icmp_lt (tgt := 62) dX12_codesTell_46 (by decide) (fun c20 => ?_) (fun c20 => ?_)
    · replace H := ite_p H c20
      refine x_iload_n dX12_codesTell_62 rfl 0 rfl ?_
      refine x_bipush (v := 40) dX12_codesTell_63 (by decide) ?_
      refine x_icmp_lt (tgt := 84) dX12_codesTell_65 (by decide) (fun c21 => ?_) (fun c21 => ?_)
      · replace H := ite_p H c21
        refine x_iload_n dX12_codesTell_84 rfl 0 rfl ?_
        refine x_bipush (v := 13) dX12_codesTell_85 (by decide) ?_
        refine x_icmp_ne (tgt := 98) dX12_codesTell_87 (by decide) (fun c22 => ?_) (fun c22 => ?_)
        · replace H := ite_m H c22
          refine x_iload_n dX12_codesTell_98 rfl 0 rfl ?_
          refine x_bipush (v := 12) dX12_codesTell_99 (by decide) ?_
          refine x_icmp_ne (tgt := 131) dX12_codesTell_101 (by decide) (fun c23 => ?_) (fun c23 => ?_)
          · replace H := ite_m H c23
            refine x_aload_n dX12_codesTell_131 rfl 1 rfl ?_
            refine x_iload_n dX12_codesTell_132 rfl 0 rfl ?_
            obtain ⟨v24, h25, hc26, H⟩ := bd_o H
            refine x_callVv (As := [.int v19]) (q := (RX12, TX12, 103)) dX12_codesTell_133 mi_X12_qJoins lk_X12_384 im_X12_qJoins se_X12_qJoins rfl c2 rfl rfl (Nat.le_of_ble_eq_true rfl) (t_X12_qJoins (by omega) hc26) ?_
            refine Ex.sub [1, 2, 3] rfl ?_
            exact t_X12_codesTell_136 hd hk19 H
          · replace H := ite_p H c23
            refine x_aload_n dX12_codesTell_104 rfl 1 rfl ?_
            obtain ⟨a27, c28, H⟩ := kr_o H
            refine x_getR fr_X12_216 dX12_codesTell_105 c2 rfl c28 ?_
            refine x_aload_n dX12_codesTell_108 rfl 1 rfl ?_
            refine x_getI fr_X12_373 dX12_codesTell_109 c2 rfl ?_
            refine x_iconst (v := 1) dX12_codesTell_112 (by decide) ?_
            refine x_isub dX12_codesTell_113 ?_
            refine x_lconst (v := 1) dX12_codesTell_114 (by decide) ?_
            refine x_aload_n dX12_codesTell_115 rfl 1 rfl ?_
            refine x_getR fr_X12_216 dX12_codesTell_116 c2 rfl c28 ?_
            refine x_aload_n dX12_codesTell_119 rfl 1 rfl ?_
            refine x_getI fr_X12_373 dX12_codesTell_120 c2 rfl ?_
            refine x_iconst (v := 1) dX12_codesTell_123 (by decide) ?_
            refine x_isub dX12_codesTell_124 ?_
            obtain ⟨n30, c29, H⟩ := ka_o H
            obtain ⟨c31, H⟩ := chk_o H
            refine x_lald dX12_codesTell_125 c29 (inb_in.mp c31) ?_
            refine x_lsub dX12_codesTell_126 ?_
            refine x_last dX12_codesTell_127 c29 (inb_in.mp c31) ?_
            refine x_goto (tgt := 136) dX12_codesTell_128 (by decide) ?_
            refine Ex.sub [1, 2, 3] rfl ?_
            exact t_X12_codesTell_136 hd hk19 H
        · replace H := ite_p H c22
          refine x_aload_n dX12_codesTell_90 rfl 1 rfl ?_
          refine x_lconst (v := 1) dX12_codesTell_91 (by decide) ?_
          obtain ⟨v32, h33, hc34, H⟩ := bd_o H
          refine x_callVv (As := [.long 1]) (q := (RX12, TX12, 103)) dX12_codesTell_92 mi_X12_qPuts lk_X12_376 im_X12_qPuts se_X12_qPuts rfl c2 rfl rfl (Nat.le_of_ble_eq_true rfl) (t_X12_qPuts (by omega) hc34) ?_
          refine x_goto (tgt := 136) dX12_codesTell_95 (by decide) ?_
          refine Ex.sub [1, 2, 3] rfl ?_
          exact t_X12_codesTell_136 hd hk19 H
      · replace H := ite_m H c21
        refine x_aload_n dX12_codesTell_68 rfl 1 rfl ?_
        refine x_aload_n dX12_codesTell_69 rfl 1 rfl ?_
        refine x_iload_n dX12_codesTell_70 rfl 0 rfl ?_
        refine x_bipush (v := 40) dX12_codesTell_71 (by decide) ?_
        refine x_isub dX12_codesTell_73 ?_
        refine x_iconst (v := 0) dX12_codesTell_74 (by decide) ?_
        obtain ⟨v35, h36, hc37, H⟩ := bd_o H
        refine x_callVl (As := [.int (v19 - 40), .int 0]) (q := (RX12, TX12, 103)) dX12_codesTell_75 mi_X12_qPartOf lk_X12_380 im_X12_qPartOf se_X12_qPartOf rfl c2 rfl rfl (Nat.le_of_ble_eq_true rfl) (t_X12_qPartOf (by omega) hc37) ?_
        obtain ⟨c41, H⟩ := ko_o H
        obtain ⟨v38, h39, hc40, H⟩ := bd_o H
        refine x_callVv (As := [.long v35]) (q := (RX12, TX12, 103)) dX12_codesTell_78 mi_X12_qPuts lk_X12_376 im_X12_qPuts se_X12_qPuts rfl c41 rfl rfl (Nat.le_of_ble_eq_true rfl) (t_X12_qPuts (by omega) hc40) ?_
        refine x_goto (tgt := 136) dX12_codesTell_81 (by decide) ?_
        refine Ex.sub [1, 2, 3] rfl ?_
        exact t_X12_codesTell_136 hd hk19 H
    · replace H := ite_m H c20
      refine x_aload_n dX12_codesTell_49 rfl 1 rfl ?_
      refine x_iload_n dX12_codesTell_50 rfl 0 rfl ?_
      refine x_sipush (v := 1000) dX12_codesTell_51 (by decide) ?_
      refine x_isub dX12_codesTell_54 ?_
      refine x_i2l dX12_codesTell_55 ?_
      obtain ⟨v42, h43, hc44, H⟩ := bd_o H
      refine x_callVv (As := [.long ((v19 - 1000 : Int32).toInt64)]) (q := (RX12, TX12, 103)) dX12_codesTell_56 mi_X12_qPuts lk_X12_376 im_X12_qPuts se_X12_qPuts rfl c2 rfl rfl (Nat.le_of_ble_eq_true rfl) (t_X12_qPuts (by omega) hc44) ?_
      refine x_goto (tgt := 136) dX12_codesTell_59 (by decide) ?_
      refine Ex.sub [1, 2, 3] rfl ?_
      exact t_X12_codesTell_136 hd hk19 H
def f_X12_codesTell_19 : Nat → Nat → Int32 → Int32 → aH → Option (Int64 × aH)
  | 0 => fun _ _ _ _ => none
  | n + 1 => b_X12_codesTell_19 (f_X12_codesTell_19 n)
set_option maxRecDepth 100000 in
set_option maxHeartbeats 4000000 in
theorem t_X12_codesTell_19 {Γ : gS} {d : Nat} (hd : 6 ≤ d) (n : Nat) : ∀ {x0 : Nat} {x1 : Int32} {x2 : Int32} {h : aH} {r : Int64} {h' : aH}, f_X12_codesTell_19 n x0 x1 x2 h = some (r, h') → Ex Γ gX12_codesTell d 19 [(0, .ref x0), (1, .int x1), (2, .int x2)] [] h (some (.long r)) h' := by
  induction n with
  | zero => intro x0 x1 x2 h r h' H; cases H
  | succ n ih => intro x0 x1 x2 h r h' H; exact tb_X12_codesTell_19 hd ih H
def f_X12_codesTell (x0 : Nat) (x1 : Int32) (h : aH) : Option (Int64 × aH) :=
  ko h x0 11 <|
  kr (hR h x0 40) fun a46 =>
  ka h a46 .int fun n49 =>
  chk (inb (3 + x1) n49 = true) <|
  nm (hI (sI (sI h x0 46 x1) x0 98 0) a46 (3 + x1 : Int32).toNatClampNeg) fun (v51 : Int32) =>
  f_X12_codesTell_19 FU x0 x1 v51 (sI (sI h x0 46 x1) x0 98 0)
set_option maxRecDepth 100000 in
set_option maxHeartbeats 4000000 in
theorem t_X12_codesTell {Γ : gS} {d : Nat} (hd : 6 ≤ d) {x0 : Nat} {x1 : Int32} {h : aH} {r : Int64} {h' : aH} (H : f_X12_codesTell x0 x1 h = some (r, h')) : Mx Γ gX12_codesTell d [.ref x0, .int x1] h (some (.long r)) h' := by
  refine Mx.of (by decide +kernel) (Nat.le_of_ble_eq_true rfl) ?_
  unfold f_X12_codesTell at H
  show Ex Γ gX12_codesTell d 0 [(0, .ref x0), (1, .int x1)] [] h (some (.long r)) h'
  obtain ⟨d, rfl⟩ : ∃ e, d = e + 1 := ⟨d - 1, by omega⟩
  refine x_aload_n dX12_codesTell_0 rfl 0 rfl ?_
  refine x_iload_n dX12_codesTell_1 rfl 1 rfl ?_
  obtain ⟨c45, H⟩ := ko_o H
  refine x_putI fl_X12_283 dX12_codesTell_2 c45 (fun e => by cases e) rfl ?_
  refine x_aload_n dX12_codesTell_5 rfl 0 rfl ?_
  refine x_iconst (v := 0) dX12_codesTell_6 (by decide) ?_
  refine x_putI fl_X12_373 dX12_codesTell_7 c45 (fun e => by cases e) rfl ?_
  refine x_aload_n dX12_codesTell_10 rfl 0 rfl ?_
  obtain ⟨a46, c47, H⟩ := kr_o H
  refine x_getR fr_X12_106 dX12_codesTell_11 c45 rfl c47 ?_
  refine x_iconst (v := 3) dX12_codesTell_14 (by decide) ?_
  refine x_iload_n dX12_codesTell_15 rfl 1 rfl ?_
  refine x_iadd dX12_codesTell_16 ?_
  obtain ⟨n49, c48, H⟩ := ka_o H
  obtain ⟨c50, H⟩ := chk_o H
  obtain ⟨v51, ev51, H⟩ := nm_o H
  refine x_ialde dX12_codesTell_17 c48 (inb_in.mp c50) ev51 ?_
  refine x_istore_n (lv' := [(2, .int v51), (0, .ref x0), (1, .int x1)]) dX12_codesTell_18 rfl (by decide) rfl rfl ?_
  refine Ex.sub [1, 2, 0] rfl ?_
  exact t_X12_codesTell_19 hd FU H
def f_X12_isWithin_27 (s0 : Int32) (h : aH) : Option (Int32 × aH) :=
  chk (narrow .boolean (.int s0) = .int s0) <|
  some (s0, h)
set_option maxRecDepth 100000 in
set_option maxHeartbeats 4000000 in
theorem t_X12_isWithin_27 {Γ : gS} {d : Nat} (hd : 5 ≤ d) {s0 : Int32} {h : aH} {r : Int32} {h' : aH} (H : f_X12_isWithin_27 s0 h = some (r, h')) : Ex Γ gX12_isWithin d 27 [] [.int s0] h (some (.int r)) h' := by
  unfold f_X12_isWithin_27 at H
  obtain ⟨d, rfl⟩ : ∃ e, d = e + 1 := ⟨d - 1, by omega⟩
  obtain ⟨c1, H⟩ := chk_o H
  obtain ⟨rfl, rfl⟩ := so_1 H
  exact x_iret dX12_isWithin_27 rfl c1
def f_X12_isWithin_26 (h : aH) : Option (Int32 × aH) :=
  f_X12_isWithin_27 0 h
set_option maxRecDepth 100000 in
set_option maxHeartbeats 4000000 in
theorem t_X12_isWithin_26 {Γ : gS} {d : Nat} (hd : 5 ≤ d) {h : aH} {r : Int32} {h' : aH} (H : f_X12_isWithin_26 h = some (r, h')) : Ex Γ gX12_isWithin d 26 [] [] h (some (.int r)) h' := by
  unfold f_X12_isWithin_26 at H
  obtain ⟨d, rfl⟩ : ∃ e, d = e + 1 := ⟨d - 1, by omega⟩
  refine x_iconst (v := 0) dX12_isWithin_26 (by decide) ?_
  exact t_X12_isWithin_27 hd H
def f_X12_isWithin (x0 : Nat) (x1 : Int32) (x2 : Int32) (h : aH) : Option (Int32 × aH) :=
  ko h x0 11 <|
  bd (f_X12_baseOf x0 x1 h) fun v2 h3 =>
  if x2 < v2 then
    f_X12_isWithin_26 h3
  else
    ko h3 x0 11 <|
    bd (f_X12_lengthOf x0 x1 h3) fun v6 h7 =>
    if (v2 + v6) ≤ x2 then
      f_X12_isWithin_26 h7
    else
      f_X12_isWithin_27 1 h7
set_option maxRecDepth 100000 in
set_option maxHeartbeats 4000000 in
theorem t_X12_isWithin {Γ : gS} {d : Nat} (hd : 5 ≤ d) {x0 : Nat} {x1 : Int32} {x2 : Int32} {h : aH} {r : Int32} {h' : aH} (H : f_X12_isWithin x0 x1 x2 h = some (r, h')) : Mx Γ gX12_isWithin d [.ref x0, .int x1, .int x2] h (some (.int r)) h' := by
  refine Mx.of (by decide +kernel) (Nat.le_of_ble_eq_true rfl) ?_
  unfold f_X12_isWithin at H
  show Ex Γ gX12_isWithin d 0 [(0, .ref x0), (1, .int x1), (2, .int x2)] [] h (some (.int r)) h'
  obtain ⟨d, rfl⟩ : ∃ e, d = e + 1 := ⟨d - 1, by omega⟩
  refine x_aload_n dX12_isWithin_0 rfl 0 rfl ?_
  refine x_iload_n dX12_isWithin_1 rfl 1 rfl ?_
  obtain ⟨c11, H⟩ := ko_o H
  obtain ⟨v2, h3, hc4, H⟩ := bd_o H
  refine x_callVi (As := [.int x1]) (q := (RX12, TX12, 103)) dX12_isWithin_2 mi_X12_baseOf lk_X12_412 im_X12_baseOf se_X12_baseOf rfl c11 rfl rfl (Nat.le_of_ble_eq_true rfl) (t_X12_baseOf (by omega) hc4) ?_
  refine x_istore_n (lv' := [(3, .int v2), (0, .ref x0), (1, .int x1), (2, .int x2)]) dX12_isWithin_5 rfl (by decide) rfl rfl ?_
  refine x_iload_n dX12_isWithin_6 rfl 3 rfl ?_
  refine x_iload_n dX12_isWithin_7 rfl 0 rfl ?_
  refine x_icmp_lt (tgt := 26) dX12_isWithin_8 (by decide) (fun c5 => ?_) (fun c5 => ?_)
  · replace H := ite_p H c5
    refine Ex.sub [] rfl ?_
    exact t_X12_isWithin_26 hd H
  · replace H := ite_m H c5
    refine x_iload_n dX12_isWithin_11 rfl 3 rfl ?_
    refine x_iload_n dX12_isWithin_12 rfl 0 rfl ?_
    refine x_aload_n dX12_isWithin_13 rfl 1 rfl ?_
    refine x_iload_n dX12_isWithin_14 rfl 2 rfl ?_
    obtain ⟨c10, H⟩ := ko_o H
    obtain ⟨v6, h7, hc8, H⟩ := bd_o H
    refine x_callVi (As := [.int x1]) (q := (RX12, TX12, 103)) dX12_isWithin_15 mi_X12_lengthOf lk_X12_415 im_X12_lengthOf se_X12_lengthOf rfl c10 rfl rfl (Nat.le_of_ble_eq_true rfl) (t_X12_lengthOf (by omega) hc8) ?_
    refine x_iadd dX12_isWithin_18 ?_
    refine x_icmp_ge (tgt := 26) dX12_isWithin_19 (by decide) (fun c9 => ?_) (fun c9 => ?_)
    · replace H := ite_p H c9
      refine Ex.sub [] rfl ?_
      exact t_X12_isWithin_26 hd H
    · replace H := ite_m H c9
      refine x_iconst (v := 1) dX12_isWithin_22 (by decide) ?_
      refine x_goto (tgt := 27) dX12_isWithin_23 (by decide) ?_
      refine Ex.sub [] rfl ?_
      exact t_X12_isWithin_27 hd H
def f_X12_doesFit_32 (s0 : Int32) (h : aH) : Option (Int32 × aH) :=
  chk (narrow .boolean (.int s0) = .int s0) <|
  some (s0, h)
set_option maxRecDepth 100000 in
set_option maxHeartbeats 4000000 in
theorem t_X12_doesFit_32 {Γ : gS} {d : Nat} (hd : 5 ≤ d) {s0 : Int32} {h : aH} {r : Int32} {h' : aH} (H : f_X12_doesFit_32 s0 h = some (r, h')) : Ex Γ gX12_doesFit d 32 [] [.int s0] h (some (.int r)) h' := by
  unfold f_X12_doesFit_32 at H
  obtain ⟨d, rfl⟩ : ∃ e, d = e + 1 := ⟨d - 1, by omega⟩
  obtain ⟨c1, H⟩ := chk_o H
  obtain ⟨rfl, rfl⟩ := so_1 H
  exact x_iret dX12_doesFit_32 rfl c1
def f_X12_doesFit (x0 : Nat) (x1 : Int32) (x2 : Int32) (h : aH) : Option (Int32 × aH) :=
  ko h x0 11 <|
  kr (hR h x0 47) fun a3 =>
  ka h a3 .int fun n6 =>
  chk (inb (x1 + 1) n6 = true) <|
  bd (f_X12_baseFrom x0 x1 (((hI h a3 (x1 + 1 : Int32).toNatClampNeg) + x2) &&& 4095) h) fun v8 h9 =>
  ko h9 x0 11 <|
  bd (f_X12_baseOf x0 x1 h9) fun v11 h12 =>
  if v8 = v11 then
    f_X12_doesFit_32 1 h12
  else
    f_X12_doesFit_32 0 h12
set_option maxRecDepth 100000 in
set_option maxHeartbeats 4000000 in
theorem t_X12_doesFit {Γ : gS} {d : Nat} (hd : 5 ≤ d) {x0 : Nat} {x1 : Int32} {x2 : Int32} {h : aH} {r : Int32} {h' : aH} (H : f_X12_doesFit x0 x1 x2 h = some (r, h')) : Mx Γ gX12_doesFit d [.ref x0, .int x1, .int x2] h (some (.int r)) h' := by
  refine Mx.of (by decide +kernel) (Nat.le_of_ble_eq_true rfl) ?_
  unfold f_X12_doesFit at H
  show Ex Γ gX12_doesFit d 0 [(0, .ref x0), (1, .int x1), (2, .int x2)] [] h (some (.int r)) h'
  obtain ⟨d, rfl⟩ : ∃ e, d = e + 1 := ⟨d - 1, by omega⟩
  refine x_aload_n dX12_doesFit_0 rfl 0 rfl ?_
  refine x_iload_n dX12_doesFit_1 rfl 1 rfl ?_
  refine x_aload_n dX12_doesFit_2 rfl 0 rfl ?_
  obtain ⟨c2, H⟩ := ko_o H
  obtain ⟨a3, c4, H⟩ := kr_o H
  refine x_getR fr_X12_115 dX12_doesFit_3 c2 rfl c4 ?_
  refine x_iload_n dX12_doesFit_6 rfl 1 rfl ?_
  refine x_iconst (v := 1) dX12_doesFit_7 (by decide) ?_
  refine x_iadd dX12_doesFit_8 ?_
  obtain ⟨n6, c5, H⟩ := ka_o H
  obtain ⟨c7, H⟩ := chk_o H
  refine x_iald dX12_doesFit_9 c5 (inb_in.mp c7) ?_
  refine x_iload_n dX12_doesFit_10 rfl 2 rfl ?_
  refine x_iadd dX12_doesFit_11 ?_
  refine x_sipush (v := 4095) dX12_doesFit_12 (by decide) ?_
  refine x_iand dX12_doesFit_15 ?_
  obtain ⟨v8, h9, hc10, H⟩ := bd_o H
  refine x_callVi (As := [.int x1, .int (((hI h a3 (x1 + 1 : Int32).toNatClampNeg) + x2) &&& 4095)]) (q := (RX12, TX12, 103)) dX12_doesFit_16 mi_X12_baseFrom lk_X12_409 im_X12_baseFrom se_X12_baseFrom rfl c2 rfl rfl (Nat.le_of_ble_eq_true rfl) (t_X12_baseFrom (by omega) hc10) ?_
  refine x_aload_n dX12_doesFit_19 rfl 0 rfl ?_
  refine x_iload_n dX12_doesFit_20 rfl 1 rfl ?_
  obtain ⟨c15, H⟩ := ko_o H
  obtain ⟨v11, h12, hc13, H⟩ := bd_o H
  refine x_callVi (As := [.int x1]) (q := (RX12, TX12, 103)) dX12_doesFit_21 mi_X12_baseOf lk_X12_412 im_X12_baseOf se_X12_baseOf rfl c15 rfl rfl (Nat.le_of_ble_eq_true rfl) (t_X12_baseOf (by omega) hc13) ?_
  refine x_icmp_ne (tgt := 31) dX12_doesFit_24 (by decide) (fun c14 => ?_) (fun c14 => ?_)
  · replace H := ite_m H c14
    refine x_iconst (v := 0) dX12_doesFit_31 (by decide) ?_
    refine Ex.sub [] rfl ?_
    exact t_X12_doesFit_32 hd H
  · replace H := ite_p H c14
    refine x_iconst (v := 1) dX12_doesFit_27 (by decide) ?_
    refine x_goto (tgt := 32) dX12_doesFit_28 (by decide) ?_
    refine Ex.sub [] rfl ?_
    exact t_X12_doesFit_32 hd H
def f_X12_isQuick_87 (s0 : Int32) (h : aH) : Option (Int32 × aH) :=
  chk (narrow .boolean (.int s0) = .int s0) <|
  some (s0, h)
set_option maxRecDepth 100000 in
set_option maxHeartbeats 4000000 in
theorem t_X12_isQuick_87 {Γ : gS} {d : Nat} (hd : 3 ≤ d) {s0 : Int32} {h : aH} {r : Int32} {h' : aH} (H : f_X12_isQuick_87 s0 h = some (r, h')) : Ex Γ gX12_isQuick d 87 [] [.int s0] h (some (.int r)) h' := by
  unfold f_X12_isQuick_87 at H
  obtain ⟨d, rfl⟩ : ∃ e, d = e + 1 := ⟨d - 1, by omega⟩
  obtain ⟨c1, H⟩ := chk_o H
  obtain ⟨rfl, rfl⟩ := so_1 H
  exact x_iret dX12_isQuick_87 rfl c1
def f_X12_isQuick_82 (h : aH) : Option (Int32 × aH) :=
  f_X12_isQuick_87 1 h
set_option maxRecDepth 100000 in
set_option maxHeartbeats 4000000 in
theorem t_X12_isQuick_82 {Γ : gS} {d : Nat} (hd : 3 ≤ d) {h : aH} {r : Int32} {h' : aH} (H : f_X12_isQuick_82 h = some (r, h')) : Ex Γ gX12_isQuick d 82 [] [] h (some (.int r)) h' := by
  unfold f_X12_isQuick_82 at H
  obtain ⟨d, rfl⟩ : ∃ e, d = e + 1 := ⟨d - 1, by omega⟩
  refine x_iconst (v := 1) dX12_isQuick_82 (by decide) ?_
  refine x_goto (tgt := 87) dX12_isQuick_83 (by decide) ?_
  exact t_X12_isQuick_87 hd H
def f_X12_isQuick_86 (h : aH) : Option (Int32 × aH) :=
  f_X12_isQuick_87 0 h
set_option maxRecDepth 100000 in
set_option maxHeartbeats 4000000 in
theorem t_X12_isQuick_86 {Γ : gS} {d : Nat} (hd : 3 ≤ d) {h : aH} {r : Int32} {h' : aH} (H : f_X12_isQuick_86 h = some (r, h')) : Ex Γ gX12_isQuick d 86 [] [] h (some (.int r)) h' := by
  unfold f_X12_isQuick_86 at H
  obtain ⟨d, rfl⟩ : ∃ e, d = e + 1 := ⟨d - 1, by omega⟩
  refine x_iconst (v := 0) dX12_isQuick_86 (by decide) ?_
  exact t_X12_isQuick_87 hd H
def f_X12_isQuick_64 (x4 : Int32) (x5 : Int32) (x6 : Int32) (h : aH) : Option (Int32 × aH) :=
  if x4 = (-1) then
    if x5 < x6 then
      f_X12_isQuick_86 h
    else
      if x6 = 0 then
        f_X12_isQuick_86 h
      else
        f_X12_isQuick_82 h
  else
    f_X12_isQuick_86 h
set_option maxRecDepth 100000 in
set_option maxHeartbeats 4000000 in
theorem t_X12_isQuick_64 {Γ : gS} {d : Nat} (hd : 3 ≤ d) {x4 : Int32} {x5 : Int32} {x6 : Int32} {h : aH} {r : Int32} {h' : aH} (H : f_X12_isQuick_64 x4 x5 x6 h = some (r, h')) : Ex Γ gX12_isQuick d 64 [(4, .int x4), (5, .int x5), (6, .int x6)] [] h (some (.int r)) h' := by
  unfold f_X12_isQuick_64 at H
  obtain ⟨d, rfl⟩ : ∃ e, d = e + 1 := ⟨d - 1, by omega⟩
  refine x_iload dX12_isQuick_64 0 rfl ?_
  refine x_iconst (v := (-1)) dX12_isQuick_66 (by decide) ?_
  refine x_icmp_ne (tgt := 86) dX12_isQuick_67 (by decide) (fun c2 => ?_) (fun c2 => ?_)
  · replace H := ite_m H c2
    refine Ex.sub [] rfl ?_
    exact t_X12_isQuick_86 hd H
  · replace H := ite_p H c2
    refine x_iload dX12_isQuick_70 1 rfl ?_
    refine x_iload dX12_isQuick_72 2 rfl ?_
    refine x_icmp_lt (tgt := 86) dX12_isQuick_74 (by decide) (fun c3 => ?_) (fun c3 => ?_)
    · replace H := ite_p H c3
      refine Ex.sub [] rfl ?_
      exact t_X12_isQuick_86 hd H
    · replace H := ite_m H c3
      refine x_iload dX12_isQuick_77 2 rfl ?_
      refine x_if_eq (tgt := 86) dX12_isQuick_79 (by decide) (fun c4 => ?_) (fun c4 => ?_)
      · replace H := ite_p H c4
        refine Ex.sub [] rfl ?_
        exact t_X12_isQuick_86 hd H
      · replace H := ite_m H c4
        refine Ex.sub [] rfl ?_
        exact t_X12_isQuick_82 hd H
def f_X12_isQuick (x0 : Nat) (x1 : Int32) (x2 : Int32) (h : aH) : Option (Int32 × aH) :=
  ko h x0 11 <|
  kr (hR h x0 47) fun a6 =>
  ka h a6 .int fun n9 =>
  chk (inb (x1 + 2) n9 = true) <|
  nm (hI h a6 (x1 + 2 : Int32).toNatClampNeg) fun (v11 : Int32) =>
  bd (f_X12_mantissa x0 h) fun v12 h13 =>
  nm (x2 >>> ((v11 + v12) &&& 31)) fun (v15 : Int32) =>
  ko h13 x0 11 <|
  bd (f_X12_modulo x0 (x2 >>> (v11 &&& 31)) h13) fun v16 h17 =>
  ko h17 x0 11 <|
  bd (f_X12_edgeOf x0 x1 h17) fun v19 h20 =>
  ko h20 x0 11 <|
  kr (hR h20 x0 47) fun a23 =>
  ka h20 a23 .int fun n26 =>
  chk (inb (x1 + 1) n26 = true) <|
  bd (f_X12_modulo x0 (v19 - ((hI h20 a23 (x1 + 1 : Int32).toNatClampNeg) >>> (v11 &&& 31))) h20) fun v28 h29 =>
  if v15 = 0 then
    if v16 < (v28 - 1) then
      f_X12_isQuick_82 h29
    else
      f_X12_isQuick_64 v15 v16 v28 h29
  else
    f_X12_isQuick_64 v15 v16 v28 h29
set_option maxRecDepth 100000 in
set_option maxHeartbeats 4000000 in
theorem t_X12_isQuick {Γ : gS} {d : Nat} (hd : 3 ≤ d) {x0 : Nat} {x1 : Int32} {x2 : Int32} {h : aH} {r : Int32} {h' : aH} (H : f_X12_isQuick x0 x1 x2 h = some (r, h')) : Mx Γ gX12_isQuick d [.ref x0, .int x1, .int x2] h (some (.int r)) h' := by
  refine Mx.of (by decide +kernel) (Nat.le_of_ble_eq_true rfl) ?_
  unfold f_X12_isQuick at H
  show Ex Γ gX12_isQuick d 0 [(0, .ref x0), (1, .int x1), (2, .int x2)] [] h (some (.int r)) h'
  obtain ⟨d, rfl⟩ : ∃ e, d = e + 1 := ⟨d - 1, by omega⟩
  refine x_aload_n dX12_isQuick_0 rfl 0 rfl ?_
  obtain ⟨c5, H⟩ := ko_o H
  obtain ⟨a6, c7, H⟩ := kr_o H
  refine x_getR fr_X12_115 dX12_isQuick_1 c5 rfl c7 ?_
  refine x_iload_n dX12_isQuick_4 rfl 1 rfl ?_
  refine x_iconst (v := 2) dX12_isQuick_5 (by decide) ?_
  refine x_iadd dX12_isQuick_6 ?_
  obtain ⟨n9, c8, H⟩ := ka_o H
  obtain ⟨c10, H⟩ := chk_o H
  refine x_iald dX12_isQuick_7 c8 (inb_in.mp c10) ?_
  obtain ⟨v11, ev11, H⟩ := nm_o H
  refine x_istore_n (lv' := [(3, .int v11), (0, .ref x0), (1, .int x1), (2, .int x2)]) dX12_isQuick_8 rfl (by decide) ev11 rfl ?_
  refine x_iload_n dX12_isQuick_9 rfl 3 rfl ?_
  refine x_iload_n dX12_isQuick_10 rfl 0 rfl ?_
  refine x_aload_n dX12_isQuick_11 rfl 1 rfl ?_
  obtain ⟨v12, h13, hc14, H⟩ := bd_o H
  refine x_callVi (As := []) (q := (RX12, TX12, 103)) dX12_isQuick_12 mi_X12_mantissa lk_X12_396 im_X12_mantissa se_X12_mantissa rfl c5 rfl rfl (Nat.le_of_ble_eq_true rfl) (t_X12_mantissa (by omega) hc14) ?_
  refine x_iadd dX12_isQuick_15 ?_
  refine x_ishr dX12_isQuick_16 ?_
  obtain ⟨v15, ev15, H⟩ := nm_o H
  refine x_istore (lv' := [(4, .int v15), (3, .int v11), (0, .ref x0), (1, .int x1), (2, .int x2)]) dX12_isQuick_17 (by decide) ev15 rfl ?_
  refine x_aload_n dX12_isQuick_19 rfl 2 rfl ?_
  refine x_iload_n dX12_isQuick_20 rfl 4 rfl ?_
  refine x_iload_n dX12_isQuick_21 rfl 1 rfl ?_
  refine x_ishr dX12_isQuick_22 ?_
  obtain ⟨c34, H⟩ := ko_o H
  obtain ⟨v16, h17, hc18, H⟩ := bd_o H
  refine x_callVi (As := [.int (x2 >>> (v11 &&& 31))]) (q := (RX12, TX12, 103)) dX12_isQuick_23 mi_X12_modulo lk_X12_403 im_X12_modulo se_X12_modulo rfl c34 rfl rfl (Nat.le_of_ble_eq_true rfl) (t_X12_modulo (by omega) hc18) ?_
  refine x_istore (lv' := [(5, .int v16), (4, .int v15), (3, .int v11), (0, .ref x0), (1, .int x1), (2, .int x2)]) dX12_isQuick_26 (by decide) rfl rfl ?_
  refine x_aload_n dX12_isQuick_28 rfl 3 rfl ?_
  refine x_aload_n dX12_isQuick_29 rfl 3 rfl ?_
  refine x_iload_n dX12_isQuick_30 rfl 4 rfl ?_
  obtain ⟨c33, H⟩ := ko_o H
  obtain ⟨v19, h20, hc21, H⟩ := bd_o H
  refine x_callVi (As := [.int x1]) (q := (RX12, TX12, 103)) dX12_isQuick_31 mi_X12_edgeOf lk_X12_406 im_X12_edgeOf se_X12_edgeOf rfl c33 rfl rfl (Nat.le_of_ble_eq_true rfl) (t_X12_edgeOf (by omega) hc21) ?_
  refine x_aload_n dX12_isQuick_34 rfl 3 rfl ?_
  obtain ⟨c22, H⟩ := ko_o H
  obtain ⟨a23, c24, H⟩ := kr_o H
  refine x_getR fr_X12_115 dX12_isQuick_35 c22 rfl c24 ?_
  refine x_iload_n dX12_isQuick_38 rfl 4 rfl ?_
  refine x_iconst (v := 1) dX12_isQuick_39 (by decide) ?_
  refine x_iadd dX12_isQuick_40 ?_
  obtain ⟨n26, c25, H⟩ := ka_o H
  obtain ⟨c27, H⟩ := chk_o H
  refine x_iald dX12_isQuick_41 c25 (inb_in.mp c27) ?_
  refine x_iload_n dX12_isQuick_42 rfl 2 rfl ?_
  refine x_ishr dX12_isQuick_43 ?_
  refine x_isub dX12_isQuick_44 ?_
  obtain ⟨v28, h29, hc30, H⟩ := bd_o H
  refine x_callVi (As := [.int (v19 - ((hI h20 a23 (x1 + 1 : Int32).toNatClampNeg) >>> (v11 &&& 31)))]) (q := (RX12, TX12, 103)) dX12_isQuick_45 mi_X12_modulo lk_X12_403 im_X12_modulo se_X12_modulo rfl c22 rfl rfl (Nat.le_of_ble_eq_true rfl) (t_X12_modulo (by omega) hc30) ?_
  refine x_istore (lv' := [(6, .int v28), (5, .int v16), (4, .int v15), (3, .int v11), (0, .ref x0), (1, .int x1), (2, .int x2)]) dX12_isQuick_48 (by decide) rfl rfl ?_
  refine x_iload dX12_isQuick_50 2 rfl ?_
  refine x_if_ne (tgt := 64) dX12_isQuick_52 (by decide) (fun c31 => ?_) (fun c31 => ?_)
  · replace H := ite_m H c31
    refine Ex.sub [2, 1, 0] rfl ?_
    exact t_X12_isQuick_64 hd H
  · replace H := ite_p H c31
    refine x_iload dX12_isQuick_55 1 rfl ?_
    refine x_iload dX12_isQuick_57 0 rfl ?_
    refine x_iconst (v := 1) dX12_isQuick_59 (by decide) ?_
    refine x_isub dX12_isQuick_60 ?_
    refine x_icmp_lt (tgt := 82) dX12_isQuick_61 (by decide) (fun c32 => ?_) (fun c32 => ?_)
    · replace H := ite_p H c32
      refine Ex.sub [] rfl ?_
      exact t_X12_isQuick_82 hd H
    · replace H := ite_m H c32
      refine Ex.sub [2, 1, 0] rfl ?_
      exact t_X12_isQuick_64 hd H
def f_X12_isOpen_42 (s0 : Int32) (h : aH) : Option (Int32 × aH) :=
  chk (narrow .boolean (.int s0) = .int s0) <|
  some (s0, h)
set_option maxRecDepth 100000 in
set_option maxHeartbeats 4000000 in
theorem t_X12_isOpen_42 {Γ : gS} {d : Nat} (hd : 2 ≤ d) {s0 : Int32} {h : aH} {r : Int32} {h' : aH} (H : f_X12_isOpen_42 s0 h = some (r, h')) : Ex Γ gX12_isOpen d 42 [] [.int s0] h (some (.int r)) h' := by
  unfold f_X12_isOpen_42 at H
  obtain ⟨d, rfl⟩ : ∃ e, d = e + 1 := ⟨d - 1, by omega⟩
  obtain ⟨c1, H⟩ := chk_o H
  obtain ⟨rfl, rfl⟩ := so_1 H
  exact x_iret dX12_isOpen_42 rfl c1
def f_X12_isOpen_41 (h : aH) : Option (Int32 × aH) :=
  f_X12_isOpen_42 0 h
set_option maxRecDepth 100000 in
set_option maxHeartbeats 4000000 in
theorem t_X12_isOpen_41 {Γ : gS} {d : Nat} (hd : 2 ≤ d) {h : aH} {r : Int32} {h' : aH} (H : f_X12_isOpen_41 h = some (r, h')) : Ex Γ gX12_isOpen d 41 [] [] h (some (.int r)) h' := by
  unfold f_X12_isOpen_41 at H
  obtain ⟨d, rfl⟩ : ∃ e, d = e + 1 := ⟨d - 1, by omega⟩
  refine x_iconst (v := 0) dX12_isOpen_41 (by decide) ?_
  exact t_X12_isOpen_42 hd H
def f_X12_isOpen (x0 : Nat) (x1 : Int32) (h : aH) : Option (Int32 × aH) :=
  ko h x0 11 <|
  bd (f_X12_isPointer x0 x1.toInt64 h) fun v2 h3 =>
  if v2 = 0 then
    f_X12_isOpen_41 h3
  else
    ko h3 x0 11 <|
    kr (hR h3 x0 47) fun a7 =>
    ka h3 a7 .int fun n10 =>
    chk (inb (8 * x1) n10 = true) <|
    if (hI h3 a7 (8 * x1 : Int32).toNatClampNeg) = 1 then
      chk (inb ((8 * x1) + 6) n10 = true) <|
      if (hI h3 a7 ((8 * x1) + 6 : Int32).toNatClampNeg) = 0 then
        f_X12_isOpen_42 1 h3
      else
        f_X12_isOpen_41 h3
    else
      f_X12_isOpen_41 h3
set_option maxRecDepth 100000 in
set_option maxHeartbeats 4000000 in
theorem t_X12_isOpen {Γ : gS} {d : Nat} (hd : 2 ≤ d) {x0 : Nat} {x1 : Int32} {h : aH} {r : Int32} {h' : aH} (H : f_X12_isOpen x0 x1 h = some (r, h')) : Mx Γ gX12_isOpen d [.ref x0, .int x1] h (some (.int r)) h' := by
  refine Mx.of (by decide +kernel) (Nat.le_of_ble_eq_true rfl) ?_
  unfold f_X12_isOpen at H
  show Ex Γ gX12_isOpen d 0 [(0, .ref x0), (1, .int x1)] [] h (some (.int r)) h'
  obtain ⟨d, rfl⟩ : ∃ e, d = e + 1 := ⟨d - 1, by omega⟩
  refine x_aload_n dX12_isOpen_0 rfl 0 rfl ?_
  refine x_iload_n dX12_isOpen_1 rfl 1 rfl ?_
  refine x_i2l dX12_isOpen_2 ?_
  obtain ⟨c15, H⟩ := ko_o H
  obtain ⟨v2, h3, hc4, H⟩ := bd_o H
  refine x_callVi (As := [.long x1.toInt64]) (q := (RX12, TX12, 103)) dX12_isOpen_3 mi_X12_isPointer lk_X12_418 im_X12_isPointer se_X12_isPointer rfl c15 rfl rfl (Nat.le_of_ble_eq_true rfl) (t_X12_isPointer (by omega) hc4) ?_
  refine x_if_eq (tgt := 41) dX12_isOpen_6 (by decide) (fun c5 => ?_) (fun c5 => ?_)
  · replace H := ite_p H c5
    refine Ex.sub [] rfl ?_
    exact t_X12_isOpen_41 hd H
  · replace H := ite_m H c5
    refine x_aload_n dX12_isOpen_9 rfl 0 rfl ?_
    obtain ⟨c6, H⟩ := ko_o H
    obtain ⟨a7, c8, H⟩ := kr_o H
    refine x_getR fr_X12_115 dX12_isOpen_10 c6 rfl c8 ?_
    refine x_bipush (v := 8) dX12_isOpen_13 (by decide) ?_
    refine x_iload_n dX12_isOpen_15 rfl 1 rfl ?_
    refine x_imul dX12_isOpen_16 ?_
    obtain ⟨n10, c9, H⟩ := ka_o H
    obtain ⟨c11, H⟩ := chk_o H
    refine x_iald dX12_isOpen_17 c9 (inb_in.mp c11) ?_
    refine x_iconst (v := 1) dX12_isOpen_18 (by decide) ?_
    refine x_icmp_ne (tgt := 41) dX12_isOpen_19 (by decide) (fun c12 => ?_) (fun c12 => ?_)
    · replace H := ite_m H c12
      refine Ex.sub [] rfl ?_
      exact t_X12_isOpen_41 hd H
    · replace H := ite_p H c12
      refine x_aload_n dX12_isOpen_22 rfl 0 rfl ?_
      refine x_getR fr_X12_115 dX12_isOpen_23 c6 rfl c8 ?_
      refine x_bipush (v := 8) dX12_isOpen_26 (by decide) ?_
      refine x_iload_n dX12_isOpen_28 rfl 1 rfl ?_
      refine x_imul dX12_isOpen_29 ?_
      refine x_bipush (v := 6) dX12_isOpen_30 (by decide) ?_
      refine x_iadd dX12_isOpen_32 ?_
      obtain ⟨c13, H⟩ := chk_o H
      refine x_iald dX12_isOpen_33 c9 (inb_in.mp c13) ?_
      refine x_if_ne (tgt := 41) dX12_isOpen_34 (by decide) (fun c14 => ?_) (fun c14 => ?_)
      · replace H := ite_m H c14
        refine Ex.sub [] rfl ?_
        exact t_X12_isOpen_41 hd H
      · replace H := ite_p H c14
        refine x_iconst (v := 1) dX12_isOpen_37 (by decide) ?_
        refine x_goto (tgt := 42) dX12_isOpen_38 (by decide) ?_
        refine Ex.sub [] rfl ?_
        exact t_X12_isOpen_42 hd H
def f_X12_objectMany (x0 : Nat) (h : aH) : Option (Int32 × aH) :=
  ko h x0 11 <|
  kr (hR h x0 47) fun a2 =>
  ka h a2 .int fun n5 =>
  chk (inb 256 n5 = true) <|
  some (hI h a2 (256 : Int32).toNatClampNeg, h)
set_option maxRecDepth 100000 in
set_option maxHeartbeats 4000000 in
theorem t_X12_objectMany {Γ : gS} {d : Nat} (hd : 0 ≤ d) {x0 : Nat} {h : aH} {r : Int32} {h' : aH} (H : f_X12_objectMany x0 h = some (r, h')) : Mx Γ gX12_objectMany d [.ref x0] h (some (.int r)) h' := by
  refine Mx.of (by decide +kernel) (Nat.le_of_ble_eq_true rfl) ?_
  unfold f_X12_objectMany at H
  show Ex Γ gX12_objectMany d 0 [(0, .ref x0)] [] h (some (.int r)) h'
  refine x_aload_n dX12_objectMany_0 rfl 0 rfl ?_
  obtain ⟨c1, H⟩ := ko_o H
  obtain ⟨a2, c3, H⟩ := kr_o H
  refine x_getR fr_X12_115 dX12_objectMany_1 c1 rfl c3 ?_
  refine x_sipush (v := 256) dX12_objectMany_4 (by decide) ?_
  obtain ⟨n5, c4, H⟩ := ka_o H
  obtain ⟨c6, H⟩ := chk_o H
  refine x_iald dX12_objectMany_7 c4 (inb_in.mp c6) ?_
  obtain ⟨rfl, rfl⟩ := so_1 H
  exact x_iret dX12_objectMany_8 rfl rfl
def f_X12_objectOf (x0 : Nat) (x1 : Int32) (x2 : Int32) (h : aH) : Option (Int32 × aH) :=
  ko h x0 11 <|
  kr (hR h x0 47) fun a2 =>
  ka h a2 .int fun n5 =>
  chk (inb ((257 + (3 * x1)) + x2) n5 = true) <|
  some (hI h a2 ((257 + (3 * x1)) + x2 : Int32).toNatClampNeg, h)
set_option maxRecDepth 100000 in
set_option maxHeartbeats 4000000 in
theorem t_X12_objectOf {Γ : gS} {d : Nat} (hd : 0 ≤ d) {x0 : Nat} {x1 : Int32} {x2 : Int32} {h : aH} {r : Int32} {h' : aH} (H : f_X12_objectOf x0 x1 x2 h = some (r, h')) : Mx Γ gX12_objectOf d [.ref x0, .int x1, .int x2] h (some (.int r)) h' := by
  refine Mx.of (by decide +kernel) (Nat.le_of_ble_eq_true rfl) ?_
  unfold f_X12_objectOf at H
  show Ex Γ gX12_objectOf d 0 [(0, .ref x0), (1, .int x1), (2, .int x2)] [] h (some (.int r)) h'
  refine x_aload_n dX12_objectOf_0 rfl 0 rfl ?_
  obtain ⟨c1, H⟩ := ko_o H
  obtain ⟨a2, c3, H⟩ := kr_o H
  refine x_getR fr_X12_115 dX12_objectOf_1 c1 rfl c3 ?_
  refine x_sipush (v := 257) dX12_objectOf_4 (by decide) ?_
  refine x_iconst (v := 3) dX12_objectOf_7 (by decide) ?_
  refine x_iload_n dX12_objectOf_8 rfl 1 rfl ?_
  refine x_imul dX12_objectOf_9 ?_
  refine x_iadd dX12_objectOf_10 ?_
  refine x_iload_n dX12_objectOf_11 rfl 2 rfl ?_
  refine x_iadd dX12_objectOf_12 ?_
  obtain ⟨n5, c4, H⟩ := ka_o H
  obtain ⟨c6, H⟩ := chk_o H
  refine x_iald dX12_objectOf_13 c4 (inb_in.mp c6) ?_
  obtain ⟨rfl, rfl⟩ := so_1 H
  exact x_iret dX12_objectOf_14 rfl rfl
def f_X12_laysHoles_102 (k10 : Nat → Int32 → Int32 → aH → Option (Unit × aH)) (x0 : Nat) (x1 : Int32) (x2 : Int32) (h : aH) : Option (Unit × aH) :=
  nm (x2 + 1) fun (v1 : Int32) =>
  k10 x0 x1 v1 h
set_option maxRecDepth 100000 in
set_option maxHeartbeats 4000000 in
theorem t_X12_laysHoles_102 {Γ : gS} {d : Nat} (hd : 1 ≤ d) {k10 : Nat → Int32 → Int32 → aH → Option (Unit × aH)} (hk10 : ∀ {x0 : Nat} {x1 : Int32} {x2 : Int32} {h : aH} {r : Unit} {h' : aH}, k10 x0 x1 x2 h = some (r, h') → Ex Γ gX12_laysHoles d 10 [(0, .ref x0), (1, .int x1), (2, .int x2)] [] h none h') {x0 : Nat} {x1 : Int32} {x2 : Int32} {h : aH} {r : Unit} {h' : aH} (H : f_X12_laysHoles_102 k10 x0 x1 x2 h = some (r, h')) : Ex Γ gX12_laysHoles d 102 [(0, .ref x0), (1, .int x1), (2, .int x2)] [] h none h' := by
  unfold f_X12_laysHoles_102 at H
  obtain ⟨d, rfl⟩ : ∃ e, d = e + 1 := ⟨d - 1, by omega⟩
  obtain ⟨v1, ev1, H⟩ := nm_o H
  refine x_iinc (v := v1) (lv' := [(2, .int v1), (0, .ref x0), (1, .int x1)]) dX12_laysHoles_102 2 rfl (by decide) ev1 rfl ?_
  refine x_goto (tgt := 10) dX12_laysHoles_105 (by decide) ?_
  refine Ex.sub [1, 2, 0] rfl ?_
  exact hk10 H
def f_X12_laysHoles_85 (k10 : Nat → Int32 → Int32 → aH → Option (Unit × aH)) (x0 : Nat) (x1 : Int32) (x2 : Int32) (x3 : Int32) (h : aH) : Option (Unit × aH) :=
  ko h x0 11 <|
  bd (f_X12_objectMany x0 h) fun v2 h3 =>
  if v2 ≤ x2 then
    f_X12_laysHoles_102 k10 x0 x1 x2 h3
  else
    ko h3 x0 11 <|
    bd (f_X12_objectOf x0 x2 1 h3) fun v6 h7 =>
    nm (x3 + v6) fun (v9 : Int32) =>
    f_X12_laysHoles_102 k10 x0 v9 x2 h7
set_option maxRecDepth 100000 in
set_option maxHeartbeats 4000000 in
theorem t_X12_laysHoles_85 {Γ : gS} {d : Nat} (hd : 1 ≤ d) {k10 : Nat → Int32 → Int32 → aH → Option (Unit × aH)} (hk10 : ∀ {x0 : Nat} {x1 : Int32} {x2 : Int32} {h : aH} {r : Unit} {h' : aH}, k10 x0 x1 x2 h = some (r, h') → Ex Γ gX12_laysHoles d 10 [(0, .ref x0), (1, .int x1), (2, .int x2)] [] h none h') {x0 : Nat} {x1 : Int32} {x2 : Int32} {x3 : Int32} {h : aH} {r : Unit} {h' : aH} (H : f_X12_laysHoles_85 k10 x0 x1 x2 x3 h = some (r, h')) : Ex Γ gX12_laysHoles d 85 [(0, .ref x0), (1, .int x1), (2, .int x2), (3, .int x3)] [] h none h' := by
  unfold f_X12_laysHoles_85 at H
  obtain ⟨d, rfl⟩ : ∃ e, d = e + 1 := ⟨d - 1, by omega⟩
  refine x_iload_n dX12_laysHoles_85 rfl 2 rfl ?_
  refine x_aload_n dX12_laysHoles_86 rfl 0 rfl ?_
  obtain ⟨c11, H⟩ := ko_o H
  obtain ⟨v2, h3, hc4, H⟩ := bd_o H
  refine x_callVi (As := []) (q := (RX12, TX12, 103)) dX12_laysHoles_87 mi_X12_objectMany lk_X12_425 im_X12_objectMany se_X12_objectMany rfl c11 rfl rfl (Nat.le_of_ble_eq_true rfl) (t_X12_objectMany (by omega) hc4) ?_
  refine x_icmp_ge (tgt := 102) dX12_laysHoles_90 (by decide) (fun c5 => ?_) (fun c5 => ?_)
  · replace H := ite_p H c5
    refine Ex.sub [0, 1, 2] rfl ?_
    exact t_X12_laysHoles_102 hd hk10 H
  · replace H := ite_m H c5
    refine x_iload_n dX12_laysHoles_93 rfl 3 rfl ?_
    refine x_aload_n dX12_laysHoles_94 rfl 0 rfl ?_
    refine x_iload_n dX12_laysHoles_95 rfl 2 rfl ?_
    refine x_iconst (v := 1) dX12_laysHoles_96 (by decide) ?_
    obtain ⟨c10, H⟩ := ko_o H
    obtain ⟨v6, h7, hc8, H⟩ := bd_o H
    refine x_callVi (As := [.int x2, .int 1]) (q := (RX12, TX12, 103)) dX12_laysHoles_97 mi_X12_objectOf lk_X12_428 im_X12_objectOf se_X12_objectOf rfl c10 rfl rfl (Nat.le_of_ble_eq_true rfl) (t_X12_objectOf (by omega) hc8) ?_
    refine x_iadd dX12_laysHoles_100 ?_
    obtain ⟨v9, ev9, H⟩ := nm_o H
    refine x_istore_n (lv' := [(1, .int v9), (0, .ref x0), (2, .int x2), (3, .int x3)]) dX12_laysHoles_101 rfl (by decide) ev9 rfl ?_
    refine Ex.sub [1, 0, 2] rfl ?_
    exact t_X12_laysHoles_102 hd hk10 H
def f_X12_laysHoles_41 (k10 : Nat → Int32 → Int32 → aH → Option (Unit × aH)) (x0 : Nat) (x1 : Int32) (x2 : Int32) (s0 : Int32) (h : aH) : Option (Unit × aH) :=
  if s0 ≤ x1 then
    f_X12_laysHoles_85 k10 x0 x1 x2 s0 h
  else
    ko h x0 11 <|
    kr (hR h x0 56) fun a14 =>
    ka h a14 .int fun n17 =>
    chk (inb (2 * (hI h x0 55)) n17 = true) <|
    nm (hI (sI h a14 (2 * (hI h x0 55) : Int32).toNatClampNeg x1) x0 55) fun (v19 : Int32) =>
    chk (inb ((2 * v19) + 1) n17 = true) <|
    nm (hI (sI (sI h a14 (2 * (hI h x0 55) : Int32).toNatClampNeg x1) a14 ((2 * v19) + 1 : Int32).toNatClampNeg (s0 - x1)) x0 55) fun (v21 : Int32) =>
    f_X12_laysHoles_85 k10 x0 x1 x2 s0 (sI (sI (sI h a14 (2 * (hI h x0 55) : Int32).toNatClampNeg x1) a14 ((2 * v19) + 1 : Int32).toNatClampNeg (s0 - x1)) x0 55 (v21 + 1))
set_option maxRecDepth 100000 in
set_option maxHeartbeats 4000000 in
theorem t_X12_laysHoles_41 {Γ : gS} {d : Nat} (hd : 1 ≤ d) {k10 : Nat → Int32 → Int32 → aH → Option (Unit × aH)} (hk10 : ∀ {x0 : Nat} {x1 : Int32} {x2 : Int32} {h : aH} {r : Unit} {h' : aH}, k10 x0 x1 x2 h = some (r, h') → Ex Γ gX12_laysHoles d 10 [(0, .ref x0), (1, .int x1), (2, .int x2)] [] h none h') {x0 : Nat} {x1 : Int32} {x2 : Int32} {s0 : Int32} {h : aH} {r : Unit} {h' : aH} (H : f_X12_laysHoles_41 k10 x0 x1 x2 s0 h = some (r, h')) : Ex Γ gX12_laysHoles d 41 [(0, .ref x0), (1, .int x1), (2, .int x2)] [.int s0] h none h' := by
  unfold f_X12_laysHoles_41 at H
  obtain ⟨d, rfl⟩ : ∃ e, d = e + 1 := ⟨d - 1, by omega⟩
  refine x_istore_n (lv' := [(3, .int s0), (0, .ref x0), (1, .int x1), (2, .int x2)]) dX12_laysHoles_41 rfl (by decide) rfl rfl ?_
  refine x_iload_n dX12_laysHoles_42 rfl 0 rfl ?_
  refine x_iload_n dX12_laysHoles_43 rfl 2 rfl ?_
  refine x_icmp_le (tgt := 85) dX12_laysHoles_44 (by decide) (fun c12 => ?_) (fun c12 => ?_)
  · replace H := ite_p H c12
    refine Ex.sub [1, 2, 3, 0] rfl ?_
    exact t_X12_laysHoles_85 hd hk10 H
  · replace H := ite_m H c12
    refine x_aload_n dX12_laysHoles_47 rfl 1 rfl ?_
    obtain ⟨c13, H⟩ := ko_o H
    obtain ⟨a14, c15, H⟩ := kr_o H
    refine x_getR fr_X12_118 dX12_laysHoles_48 c13 rfl c15 ?_
    refine x_iconst (v := 2) dX12_laysHoles_51 (by decide) ?_
    refine x_aload_n dX12_laysHoles_52 rfl 1 rfl ?_
    refine x_getI fr_X12_422 dX12_laysHoles_53 c13 rfl ?_
    refine x_imul dX12_laysHoles_56 ?_
    refine x_iload_n dX12_laysHoles_57 rfl 2 rfl ?_
    obtain ⟨n17, c16, H⟩ := ka_o H
    obtain ⟨c18, H⟩ := chk_o H
    refine x_iast dX12_laysHoles_58 c16 (inb_in.mp c18) ?_
    refine x_aload_n dX12_laysHoles_59 rfl 1 rfl ?_
    refine x_getR fr_X12_118 dX12_laysHoles_60 c13 rfl c15 ?_
    refine x_iconst (v := 2) dX12_laysHoles_63 (by decide) ?_
    refine x_aload_n dX12_laysHoles_64 rfl 1 rfl ?_
    obtain ⟨v19, ev19, H⟩ := nm_o H
    refine x_getIe fr_X12_422 dX12_laysHoles_65 c13 rfl ev19 ?_
    refine x_imul dX12_laysHoles_68 ?_
    refine x_iconst (v := 1) dX12_laysHoles_69 (by decide) ?_
    refine x_iadd dX12_laysHoles_70 ?_
    refine x_iload_n dX12_laysHoles_71 rfl 0 rfl ?_
    refine x_iload_n dX12_laysHoles_72 rfl 2 rfl ?_
    refine x_isub dX12_laysHoles_73 ?_
    obtain ⟨c20, H⟩ := chk_o H
    refine x_iast dX12_laysHoles_74 c16 (inb_in.mp c20) ?_
    refine x_aload_n dX12_laysHoles_75 rfl 1 rfl ?_
    refine x_dup dX12_laysHoles_76 rfl ?_
    obtain ⟨v21, ev21, H⟩ := nm_o H
    refine x_getIe fr_X12_422 dX12_laysHoles_77 c13 rfl ev21 ?_
    refine x_iconst (v := 1) dX12_laysHoles_80 (by decide) ?_
    refine x_iadd dX12_laysHoles_81 ?_
    refine x_putI fl_X12_422 dX12_laysHoles_82 c13 (fun e => by cases e) rfl ?_
    refine Ex.sub [1, 2, 3, 0] rfl ?_
    exact t_X12_laysHoles_85 hd hk10 H
def b_X12_laysHoles_10 (k10 : Nat → Int32 → Int32 → aH → Option (Unit × aH)) (x0 : Nat) (x1 : Int32) (x2 : Int32) (h : aH) : Option (Unit × aH) :=
  ko h x0 11 <|
  bd (f_X12_objectMany x0 h) fun v22 h23 =>
  if v22 < x2 then
    some ((), h23)
  else
    ko h23 x0 11 <|
    bd (f_X12_objectMany x0 h23) fun v26 h27 =>
    if v26 ≤ x2 then
      ko h27 x0 11 <|
      kr (hR h27 x0 37) fun a31 =>
      ka h27 a31 .int fun n34 =>
      chk (inb 3 n34 = true) <|
      f_X12_laysHoles_41 k10 x0 x1 x2 (hI h27 a31 (3 : Int32).toNatClampNeg) h27
    else
      ko h27 x0 11 <|
      bd (f_X12_objectOf x0 x2 0 h27) fun v36 h37 =>
      f_X12_laysHoles_41 k10 x0 x1 x2 v36 h37
set_option maxRecDepth 100000 in
set_option maxHeartbeats 4000000 in
theorem tb_X12_laysHoles_10 {Γ : gS} {d : Nat} (hd : 1 ≤ d) {k10 : Nat → Int32 → Int32 → aH → Option (Unit × aH)} (hk10 : ∀ {x0 : Nat} {x1 : Int32} {x2 : Int32} {h : aH} {r : Unit} {h' : aH}, k10 x0 x1 x2 h = some (r, h') → Ex Γ gX12_laysHoles d 10 [(0, .ref x0), (1, .int x1), (2, .int x2)] [] h none h') {x0 : Nat} {x1 : Int32} {x2 : Int32} {h : aH} {r : Unit} {h' : aH} (H : b_X12_laysHoles_10 k10 x0 x1 x2 h = some (r, h')) : Ex Γ gX12_laysHoles d 10 [(0, .ref x0), (1, .int x1), (2, .int x2)] [] h none h' := by
  unfold b_X12_laysHoles_10 at H
  obtain ⟨d, rfl⟩ : ∃ e, d = e + 1 := ⟨d - 1, by omega⟩
  refine x_iload_n dX12_laysHoles_10 rfl 2 rfl ?_
  refine x_aload_n dX12_laysHoles_11 rfl 0 rfl ?_
  obtain ⟨c41, H⟩ := ko_o H
  obtain ⟨v22, h23, hc24, H⟩ := bd_o H
  refine x_callVi (As := []) (q := (RX12, TX12, 103)) dX12_laysHoles_12 mi_X12_objectMany lk_X12_425 im_X12_objectMany se_X12_objectMany rfl c41 rfl rfl (Nat.le_of_ble_eq_true rfl) (t_X12_objectMany (by omega) hc24) ?_
  refine x_icmp_gt (tgt := 108) dX12_laysHoles_15 (by decide) (fun c25 => ?_) (fun c25 => ?_)
  · replace H := ite_p H c25
    obtain ⟨-, rfl⟩ := so_1 H
    exact x_vret dX12_laysHoles_108 rfl
  · replace H := ite_m H c25
    refine x_iload_n dX12_laysHoles_18 rfl 2 rfl ?_
    refine x_aload_n dX12_laysHoles_19 rfl 0 rfl ?_
    obtain ⟨c40, H⟩ := ko_o H
    obtain ⟨v26, h27, hc28, H⟩ := bd_o H
    refine x_callVi (As := []) (q := (RX12, TX12, 103)) dX12_laysHoles_20 mi_X12_objectMany lk_X12_425 im_X12_objectMany se_X12_objectMany rfl c40 rfl rfl (Nat.le_of_ble_eq_true rfl) (t_X12_objectMany (by omega) hc28) ?_
    refine x_icmp_ge (tgt := 35) dX12_laysHoles_23 (by decide) (fun c29 => ?_) (fun c29 => ?_)
    · replace H := ite_p H c29
      refine x_aload_n dX12_laysHoles_35 rfl 0 rfl ?_
      obtain ⟨c30, H⟩ := ko_o H
      obtain ⟨a31, c32, H⟩ := kr_o H
      refine x_getR fr_X12_96 dX12_laysHoles_36 c30 rfl c32 ?_
      refine x_iconst (v := 3) dX12_laysHoles_39 (by decide) ?_
      obtain ⟨n34, c33, H⟩ := ka_o H
      obtain ⟨c35, H⟩ := chk_o H
      refine x_iald dX12_laysHoles_40 c33 (inb_in.mp c35) ?_
      exact t_X12_laysHoles_41 hd hk10 H
    · replace H := ite_m H c29
      refine x_aload_n dX12_laysHoles_26 rfl 0 rfl ?_
      refine x_iload_n dX12_laysHoles_27 rfl 2 rfl ?_
      refine x_iconst (v := 0) dX12_laysHoles_28 (by decide) ?_
      obtain ⟨c39, H⟩ := ko_o H
      obtain ⟨v36, h37, hc38, H⟩ := bd_o H
      refine x_callVi (As := [.int x2, .int 0]) (q := (RX12, TX12, 103)) dX12_laysHoles_29 mi_X12_objectOf lk_X12_428 im_X12_objectOf se_X12_objectOf rfl c39 rfl rfl (Nat.le_of_ble_eq_true rfl) (t_X12_objectOf (by omega) hc38) ?_
      refine x_goto (tgt := 41) dX12_laysHoles_32 (by decide) ?_
      exact t_X12_laysHoles_41 hd hk10 H
def f_X12_laysHoles_10 : Nat → Nat → Int32 → Int32 → aH → Option (Unit × aH)
  | 0 => fun _ _ _ _ => none
  | n + 1 => b_X12_laysHoles_10 (f_X12_laysHoles_10 n)
set_option maxRecDepth 100000 in
set_option maxHeartbeats 4000000 in
theorem t_X12_laysHoles_10 {Γ : gS} {d : Nat} (hd : 1 ≤ d) (n : Nat) : ∀ {x0 : Nat} {x1 : Int32} {x2 : Int32} {h : aH} {r : Unit} {h' : aH}, f_X12_laysHoles_10 n x0 x1 x2 h = some (r, h') → Ex Γ gX12_laysHoles d 10 [(0, .ref x0), (1, .int x1), (2, .int x2)] [] h none h' := by
  induction n with
  | zero => intro x0 x1 x2 h r h' H; cases H
  | succ n ih => intro x0 x1 x2 h r h' H; exact tb_X12_laysHoles_10 hd ih H
def f_X12_laysHoles (x0 : Nat) (h : aH) : Option (Unit × aH) :=
  ko h x0 11 <|
  f_X12_laysHoles_10 FU x0 16 0 (sI h x0 55 0)
set_option maxRecDepth 100000 in
set_option maxHeartbeats 4000000 in
theorem t_X12_laysHoles {Γ : gS} {d : Nat} (hd : 1 ≤ d) {x0 : Nat} {h : aH} {r : Unit} {h' : aH} (H : f_X12_laysHoles x0 h = some (r, h')) : Mx Γ gX12_laysHoles d [.ref x0] h none h' := by
  refine Mx.of (by decide +kernel) (Nat.le_of_ble_eq_true rfl) ?_
  unfold f_X12_laysHoles at H
  show Ex Γ gX12_laysHoles d 0 [(0, .ref x0)] [] h none h'
  obtain ⟨d, rfl⟩ : ∃ e, d = e + 1 := ⟨d - 1, by omega⟩
  refine x_bipush (v := 16) dX12_laysHoles_0 (by decide) ?_
  refine x_istore_n (lv' := [(1, .int 16), (0, .ref x0)]) dX12_laysHoles_2 rfl (by decide) rfl rfl ?_
  refine x_aload_n dX12_laysHoles_3 rfl 1 rfl ?_
  refine x_iconst (v := 0) dX12_laysHoles_4 (by decide) ?_
  obtain ⟨c42, H⟩ := ko_o H
  refine x_putI fl_X12_422 dX12_laysHoles_5 c42 (fun e => by cases e) rfl ?_
  refine x_iconst (v := 0) dX12_laysHoles_8 (by decide) ?_
  refine x_istore_n (lv' := [(2, .int 0), (1, .int 16), (0, .ref x0)]) dX12_laysHoles_9 rfl (by decide) rfl rfl ?_
  refine Ex.sub [2, 1, 0] rfl ?_
  exact t_X12_laysHoles_10 hd FU H
def f_X12_roomFor_221 (k73 : Nat → Int32 → Int32 → Int64 → Int32 → aH → Option (Int32 × aH)) (x0 : Nat) (x3 : Int32) (x4 : Int32) (x5 : Int64) (x7 : Int32) (h : aH) : Option (Int32 × aH) :=
  nm (x7 + 1) fun (v1 : Int32) =>
  k73 x0 x3 x4 x5 v1 h
set_option maxRecDepth 100000 in
set_option maxHeartbeats 4000000 in
theorem t_X12_roomFor_221 {Γ : gS} {d : Nat} (hd : 7 ≤ d) {k73 : Nat → Int32 → Int32 → Int64 → Int32 → aH → Option (Int32 × aH)} (hk73 : ∀ {x0 : Nat} {x3 : Int32} {x4 : Int32} {x5 : Int64} {x7 : Int32} {h : aH} {r : Int32} {h' : aH}, k73 x0 x3 x4 x5 x7 h = some (r, h') → Ex Γ gX12_roomFor d 73 [(0, .ref x0), (3, .int x3), (4, .int x4), (5, .long x5), (7, .int x7)] [] h (some (.int r)) h') {x0 : Nat} {x3 : Int32} {x4 : Int32} {x5 : Int64} {x7 : Int32} {h : aH} {r : Int32} {h' : aH} (H : f_X12_roomFor_221 k73 x0 x3 x4 x5 x7 h = some (r, h')) : Ex Γ gX12_roomFor d 221 [(0, .ref x0), (3, .int x3), (4, .int x4), (5, .long x5), (7, .int x7)] [] h (some (.int r)) h' := by
  unfold f_X12_roomFor_221 at H
  obtain ⟨d, rfl⟩ : ∃ e, d = e + 1 := ⟨d - 1, by omega⟩
  obtain ⟨v1, ev1, H⟩ := nm_o H
  refine x_iinc (v := v1) (lv' := [(7, .int v1), (0, .ref x0), (3, .int x3), (4, .int x4), (5, .long x5)]) dX12_roomFor_221 4 rfl (by decide) ev1 rfl ?_
  refine x_goto (tgt := 73) dX12_roomFor_224 (by decide) ?_
  refine Ex.sub [1, 2, 3, 4, 0] rfl ?_
  exact hk73 H
def f_X12_roomFor_213 (k73 : Nat → Int32 → Int32 → Int64 → Int32 → aH → Option (Int32 × aH)) (x0 : Nat) (x3 : Int32) (x7 : Int32) (x8 : Int32) (x9 : Int64) (h : aH) : Option (Int32 × aH) :=
  f_X12_roomFor_221 k73 x0 x3 x8 x9 x7 h
set_option maxRecDepth 100000 in
set_option maxHeartbeats 4000000 in
theorem t_X12_roomFor_213 {Γ : gS} {d : Nat} (hd : 7 ≤ d) {k73 : Nat → Int32 → Int32 → Int64 → Int32 → aH → Option (Int32 × aH)} (hk73 : ∀ {x0 : Nat} {x3 : Int32} {x4 : Int32} {x5 : Int64} {x7 : Int32} {h : aH} {r : Int32} {h' : aH}, k73 x0 x3 x4 x5 x7 h = some (r, h') → Ex Γ gX12_roomFor d 73 [(0, .ref x0), (3, .int x3), (4, .int x4), (5, .long x5), (7, .int x7)] [] h (some (.int r)) h') {x0 : Nat} {x3 : Int32} {x7 : Int32} {x8 : Int32} {x9 : Int64} {h : aH} {r : Int32} {h' : aH} (H : f_X12_roomFor_213 k73 x0 x3 x7 x8 x9 h = some (r, h')) : Ex Γ gX12_roomFor d 213 [(0, .ref x0), (3, .int x3), (7, .int x7), (8, .int x8), (9, .long x9)] [] h (some (.int r)) h' := by
  unfold f_X12_roomFor_213 at H
  obtain ⟨d, rfl⟩ : ∃ e, d = e + 1 := ⟨d - 1, by omega⟩
  refine x_iload dX12_roomFor_213 3 rfl ?_
  refine x_istore (lv' := [(4, .int x8), (0, .ref x0), (3, .int x3), (7, .int x7), (8, .int x8), (9, .long x9)]) dX12_roomFor_215 (by decide) rfl rfl ?_
  refine x_lload dX12_roomFor_217 5 rfl ?_
  refine x_lstore (lv' := [(5, .long x9), (4, .int x8), (0, .ref x0), (3, .int x3), (7, .int x7), (8, .int x8), (9, .long x9)]) dX12_roomFor_219 (by decide) rfl rfl ?_
  refine Ex.sub [2, 3, 1, 0, 4] rfl ?_
  exact t_X12_roomFor_221 hd hk73 H
def f_X12_roomFor_194 (k73 : Nat → Int32 → Int32 → Int64 → Int32 → aH → Option (Int32 × aH)) (x0 : Nat) (x3 : Int32) (x4 : Int32) (x5 : Int64) (x7 : Int32) (x8 : Int32) (s0 : Int64) (h : aH) : Option (Int32 × aH) :=
  if x4 = (-1) then
    f_X12_roomFor_213 k73 x0 x3 x7 x8 s0 h
  else
    if (lg_cmp s0 x5) < 0 then
      f_X12_roomFor_213 k73 x0 x3 x7 x8 s0 h
    else
      f_X12_roomFor_221 k73 x0 x3 x4 x5 x7 h
set_option maxRecDepth 100000 in
set_option maxHeartbeats 4000000 in
theorem t_X12_roomFor_194 {Γ : gS} {d : Nat} (hd : 7 ≤ d) {k73 : Nat → Int32 → Int32 → Int64 → Int32 → aH → Option (Int32 × aH)} (hk73 : ∀ {x0 : Nat} {x3 : Int32} {x4 : Int32} {x5 : Int64} {x7 : Int32} {h : aH} {r : Int32} {h' : aH}, k73 x0 x3 x4 x5 x7 h = some (r, h') → Ex Γ gX12_roomFor d 73 [(0, .ref x0), (3, .int x3), (4, .int x4), (5, .long x5), (7, .int x7)] [] h (some (.int r)) h') {x0 : Nat} {x3 : Int32} {x4 : Int32} {x5 : Int64} {x7 : Int32} {x8 : Int32} {s0 : Int64} {h : aH} {r : Int32} {h' : aH} (H : f_X12_roomFor_194 k73 x0 x3 x4 x5 x7 x8 s0 h = some (r, h')) : Ex Γ gX12_roomFor d 194 [(0, .ref x0), (3, .int x3), (4, .int x4), (5, .long x5), (7, .int x7), (8, .int x8)] [.long s0] h (some (.int r)) h' := by
  unfold f_X12_roomFor_194 at H
  obtain ⟨d, rfl⟩ : ∃ e, d = e + 1 := ⟨d - 1, by omega⟩
  refine x_lstore (lv' := [(9, .long s0), (0, .ref x0), (3, .int x3), (4, .int x4), (5, .long x5), (7, .int x7), (8, .int x8)]) dX12_roomFor_194 (by decide) rfl rfl ?_
  refine x_iload dX12_roomFor_196 3 rfl ?_
  refine x_iconst (v := (-1)) dX12_roomFor_198 (by decide) ?_
  refine x_icmp_eq (tgt := 213) dX12_roomFor_199 (by decide) (fun c2 => ?_) (fun c2 => ?_)
  · replace H := ite_p H c2
    refine Ex.sub [1, 2, 5, 6, 0] rfl ?_
    exact t_X12_roomFor_213 hd hk73 H
  · replace H := ite_m H c2
    refine x_lload dX12_roomFor_202 0 rfl ?_
    refine x_lload dX12_roomFor_204 4 rfl ?_
    refine x_lcmp dX12_roomFor_206 ?_
    refine x_if_lt (tgt := 213) dX12_roomFor_207 (by decide) (fun c3 => ?_) (fun c3 => ?_)
    · replace H := ite_p H c3
      refine Ex.sub [1, 2, 5, 6, 0] rfl ?_
      exact t_X12_roomFor_213 hd hk73 H
    · replace H := ite_m H c3
      refine x_goto (tgt := 221) dX12_roomFor_210 (by decide) ?_
      refine Ex.sub [1, 2, 3, 4, 5] rfl ?_
      exact t_X12_roomFor_221 hd hk73 H
def b_X12_roomFor_73 (k73 : Nat → Int32 → Int32 → Int64 → Int32 → aH → Option (Int32 × aH)) (x0 : Nat) (x3 : Int32) (x4 : Int32) (x5 : Int64) (x7 : Int32) (h : aH) : Option (Int32 × aH) :=
  ko h x0 11 <|
  if (hI h x0 55) ≤ x7 then
    some (x4, h)
  else
    kr (hR h x0 56) fun a6 =>
    ka h a6 .int fun n9 =>
    chk (inb (2 * x7) n9 = true) <|
    nm (((((hI h a6 (2 * x7 : Int32).toNatClampNeg) + (1 <<< (x3 &&& 31))) - 1) >>> (x3 &&& 31)) <<< (x3 &&& 31)) fun (v11 : Int32) =>
    chk (inb ((2 * x7) + 1) n9 = true) <|
    if (v11 + (hI h x0 57)) ≤ ((hI h a6 (2 * x7 : Int32).toNatClampNeg) + (hI h a6 ((2 * x7) + 1 : Int32).toNatClampNeg)) then
      nm (hI (sI h x0 49 (hI h x0 57)) a6 (2 * x7 : Int32).toNatClampNeg) fun (v14 : Int32) =>
      nm (hI (sI (sI h x0 49 (hI h x0 57)) x0 50 v14) a6 ((2 * x7) + 1 : Int32).toNatClampNeg) fun (v15 : Int32) =>
      bd (f_X12_isCoded x0 0 (sI (sI (sI h x0 49 (hI h x0 57)) x0 50 v14) x0 51 v15)) fun v16 h17 =>
      if v16 = 0 then
        ko h17 x0 11 <|
        f_X12_roomFor_194 k73 x0 x3 x4 x5 x7 v11 ((hI h17 x0 50 : Int32).toInt64) h17
      else
        ko h17 x0 11 <|
        bd (f_X12_codesTell x0 0 h17) fun v21 h22 =>
        f_X12_roomFor_194 k73 x0 x3 x4 x5 x7 v11 v21 h22
    else
      f_X12_roomFor_221 k73 x0 x3 x4 x5 x7 h
set_option maxRecDepth 100000 in
set_option maxHeartbeats 4000000 in
theorem tb_X12_roomFor_73 {Γ : gS} {d : Nat} (hd : 7 ≤ d) {k73 : Nat → Int32 → Int32 → Int64 → Int32 → aH → Option (Int32 × aH)} (hk73 : ∀ {x0 : Nat} {x3 : Int32} {x4 : Int32} {x5 : Int64} {x7 : Int32} {h : aH} {r : Int32} {h' : aH}, k73 x0 x3 x4 x5 x7 h = some (r, h') → Ex Γ gX12_roomFor d 73 [(0, .ref x0), (3, .int x3), (4, .int x4), (5, .long x5), (7, .int x7)] [] h (some (.int r)) h') {x0 : Nat} {x3 : Int32} {x4 : Int32} {x5 : Int64} {x7 : Int32} {h : aH} {r : Int32} {h' : aH} (H : b_X12_roomFor_73 k73 x0 x3 x4 x5 x7 h = some (r, h')) : Ex Γ gX12_roomFor d 73 [(0, .ref x0), (3, .int x3), (4, .int x4), (5, .long x5), (7, .int x7)] [] h (some (.int r)) h' := by
  unfold b_X12_roomFor_73 at H
  obtain ⟨d, rfl⟩ : ∃ e, d = e + 1 := ⟨d - 1, by omega⟩
  refine x_iload dX12_roomFor_73 4 rfl ?_
  refine x_aload_n dX12_roomFor_75 rfl 0 rfl ?_
  obtain ⟨c4, H⟩ := ko_o H
  refine x_getI fr_X12_422 dX12_roomFor_76 c4 rfl ?_
  refine x_icmp_ge (tgt := 227) dX12_roomFor_79 (by decide) (fun c5 => ?_) (fun c5 => ?_)
  · replace H := ite_p H c5
    refine x_iload dX12_roomFor_227 2 rfl ?_
    obtain ⟨rfl, rfl⟩ := so_1 H
    exact x_iret dX12_roomFor_229 rfl rfl
  · replace H := ite_m H c5
    refine x_aload_n dX12_roomFor_82 rfl 0 rfl ?_
    obtain ⟨a6, c7, H⟩ := kr_o H
    refine x_getR fr_X12_118 dX12_roomFor_83 c4 rfl c7 ?_
    refine x_iconst (v := 2) dX12_roomFor_86 (by decide) ?_
    refine x_iload dX12_roomFor_87 4 rfl ?_
    refine x_imul dX12_roomFor_89 ?_
    obtain ⟨n9, c8, H⟩ := ka_o H
    obtain ⟨c10, H⟩ := chk_o H
    refine x_iald dX12_roomFor_90 c8 (inb_in.mp c10) ?_
    refine x_iconst (v := 1) dX12_roomFor_91 (by decide) ?_
    refine x_iload_n dX12_roomFor_92 rfl 1 rfl ?_
    refine x_ishl dX12_roomFor_93 ?_
    refine x_iadd dX12_roomFor_94 ?_
    refine x_iconst (v := 1) dX12_roomFor_95 (by decide) ?_
    refine x_isub dX12_roomFor_96 ?_
    refine x_iload_n dX12_roomFor_97 rfl 1 rfl ?_
    refine x_ishr dX12_roomFor_98 ?_
    refine x_iload_n dX12_roomFor_99 rfl 1 rfl ?_
    refine x_ishl dX12_roomFor_100 ?_
    obtain ⟨v11, ev11, H⟩ := nm_o H
    refine x_istore (lv' := [(8, .int v11), (0, .ref x0), (3, .int x3), (4, .int x4), (5, .long x5), (7, .int x7)]) dX12_roomFor_101 (by decide) ev11 rfl ?_
    refine x_iload dX12_roomFor_103 0 rfl ?_
    refine x_aload_n dX12_roomFor_105 rfl 1 rfl ?_
    refine x_getI fr_X12_445 dX12_roomFor_106 c4 rfl ?_
    refine x_iadd dX12_roomFor_109 ?_
    refine x_aload_n dX12_roomFor_110 rfl 1 rfl ?_
    refine x_getR fr_X12_118 dX12_roomFor_111 c4 rfl c7 ?_
    refine x_iconst (v := 2) dX12_roomFor_114 (by decide) ?_
    refine x_iload dX12_roomFor_115 5 rfl ?_
    refine x_imul dX12_roomFor_117 ?_
    refine x_iald dX12_roomFor_118 c8 (inb_in.mp c10) ?_
    refine x_aload_n dX12_roomFor_119 rfl 1 rfl ?_
    refine x_getR fr_X12_118 dX12_roomFor_120 c4 rfl c7 ?_
    refine x_iconst (v := 2) dX12_roomFor_123 (by decide) ?_
    refine x_iload dX12_roomFor_124 5 rfl ?_
    refine x_imul dX12_roomFor_126 ?_
    refine x_iconst (v := 1) dX12_roomFor_127 (by decide) ?_
    refine x_iadd dX12_roomFor_128 ?_
    obtain ⟨c12, H⟩ := chk_o H
    refine x_iald dX12_roomFor_129 c8 (inb_in.mp c12) ?_
    refine x_iadd dX12_roomFor_130 ?_
    refine x_icmp_le (tgt := 137) dX12_roomFor_131 (by decide) (fun c13 => ?_) (fun c13 => ?_)
    · replace H := ite_p H c13
      refine x_aload_n dX12_roomFor_137 rfl 1 rfl ?_
      refine x_aload_n dX12_roomFor_138 rfl 1 rfl ?_
      refine x_getI fr_X12_445 dX12_roomFor_139 c4 rfl ?_
      refine x_putI fl_X12_431 dX12_roomFor_142 c4 (fun e => by cases e) rfl ?_
      refine x_aload_n dX12_roomFor_145 rfl 1 rfl ?_
      refine x_aload_n dX12_roomFor_146 rfl 1 rfl ?_
      refine x_getR fr_X12_118 dX12_roomFor_147 c4 rfl c7 ?_
      refine x_iconst (v := 2) dX12_roomFor_150 (by decide) ?_
      refine x_iload dX12_roomFor_151 5 rfl ?_
      refine x_imul dX12_roomFor_153 ?_
      obtain ⟨v14, ev14, H⟩ := nm_o H
      refine x_ialde dX12_roomFor_154 c8 (inb_in.mp c10) ev14 ?_
      refine x_putI fl_X12_451 dX12_roomFor_155 c4 (fun e => by cases e) rfl ?_
      refine x_aload_n dX12_roomFor_158 rfl 1 rfl ?_
      refine x_aload_n dX12_roomFor_159 rfl 1 rfl ?_
      refine x_getR fr_X12_118 dX12_roomFor_160 c4 rfl c7 ?_
      refine x_iconst (v := 2) dX12_roomFor_163 (by decide) ?_
      refine x_iload dX12_roomFor_164 5 rfl ?_
      refine x_imul dX12_roomFor_166 ?_
      refine x_iconst (v := 1) dX12_roomFor_167 (by decide) ?_
      refine x_iadd dX12_roomFor_168 ?_
      obtain ⟨v15, ev15, H⟩ := nm_o H
      refine x_ialde dX12_roomFor_169 c8 (inb_in.mp c12) ev15 ?_
      refine x_putI fl_X12_454 dX12_roomFor_170 c4 (fun e => by cases e) rfl ?_
      refine x_aload_n dX12_roomFor_173 rfl 1 rfl ?_
      refine x_iconst (v := 0) dX12_roomFor_174 (by decide) ?_
      obtain ⟨v16, h17, hc18, H⟩ := bd_o H
      refine x_callVi (As := [.int 0]) (q := (RX12, TX12, 103)) dX12_roomFor_175 mi_X12_isCoded lk_X12_434 im_X12_isCoded se_X12_isCoded rfl c4 rfl rfl (Nat.le_of_ble_eq_true rfl) (t_X12_isCoded (by omega) hc18) ?_
      refine x_if_eq (tgt := 189) dX12_roomFor_178 (by decide) (fun c19 => ?_) (fun c19 => ?_)
      · replace H := ite_p H c19
        refine x_aload_n dX12_roomFor_189 rfl 1 rfl ?_
        obtain ⟨c20, H⟩ := ko_o H
        refine x_getI fr_X12_451 dX12_roomFor_190 c20 rfl ?_
        refine x_i2l dX12_roomFor_193 ?_
        refine Ex.sub [1, 2, 3, 4, 5, 0] rfl ?_
        exact t_X12_roomFor_194 hd hk73 H
      · replace H := ite_m H c19
        refine x_aload_n dX12_roomFor_181 rfl 1 rfl ?_
        refine x_iconst (v := 0) dX12_roomFor_182 (by decide) ?_
        obtain ⟨c24, H⟩ := ko_o H
        obtain ⟨v21, h22, hc23, H⟩ := bd_o H
        refine x_callVl (As := [.int 0]) (q := (RX12, TX12, 103)) dX12_roomFor_183 mi_X12_codesTell lk_X12_437 im_X12_codesTell se_X12_codesTell rfl c24 rfl rfl (Nat.le_of_ble_eq_true rfl) (t_X12_codesTell (by omega) hc23) ?_
        refine x_goto (tgt := 194) dX12_roomFor_186 (by decide) ?_
        refine Ex.sub [1, 2, 3, 4, 5, 0] rfl ?_
        exact t_X12_roomFor_194 hd hk73 H
    · replace H := ite_m H c13
      refine x_goto (tgt := 221) dX12_roomFor_134 (by decide) ?_
      refine Ex.sub [1, 2, 3, 4, 5] rfl ?_
      exact t_X12_roomFor_221 hd hk73 H
def f_X12_roomFor_73 : Nat → Nat → Int32 → Int32 → Int64 → Int32 → aH → Option (Int32 × aH)
  | 0 => fun _ _ _ _ _ _ => none
  | n + 1 => b_X12_roomFor_73 (f_X12_roomFor_73 n)
set_option maxRecDepth 100000 in
set_option maxHeartbeats 4000000 in
theorem t_X12_roomFor_73 {Γ : gS} {d : Nat} (hd : 7 ≤ d) (n : Nat) : ∀ {x0 : Nat} {x3 : Int32} {x4 : Int32} {x5 : Int64} {x7 : Int32} {h : aH} {r : Int32} {h' : aH}, f_X12_roomFor_73 n x0 x3 x4 x5 x7 h = some (r, h') → Ex Γ gX12_roomFor d 73 [(0, .ref x0), (3, .int x3), (4, .int x4), (5, .long x5), (7, .int x7)] [] h (some (.int r)) h' := by
  induction n with
  | zero => intro x0 x3 x4 x5 x7 h r h' H; cases H
  | succ n ih => intro x0 x3 x4 x5 x7 h r h' H; exact tb_X12_roomFor_73 hd ih H
def f_X12_roomFor_39 (x0 : Nat) (s0 : Int32) (s1 : Int32) (h : aH) : Option (Int32 × aH) :=
  nm (s0 + s1) fun (v25 : Int32) =>
  ko h x0 11 <|
  bd (f_X12_encodes x0 0 v25 h) fun _ h27 =>
  ko h27 x0 11 <|
  nm (hI h27 x0 52) fun (v30 : Int32) =>
  bd (f_X12_laysHoles x0 (sI h27 x0 57 (hI h27 x0 54))) fun _ h32 =>
  f_X12_roomFor_73 FU x0 v30 (-1) 0 0 h32
set_option maxRecDepth 100000 in
set_option maxHeartbeats 4000000 in
theorem t_X12_roomFor_39 {Γ : gS} {d : Nat} (hd : 7 ≤ d) {x0 : Nat} {s0 : Int32} {s1 : Int32} {h : aH} {r : Int32} {h' : aH} (H : f_X12_roomFor_39 x0 s0 s1 h = some (r, h')) : Ex Γ gX12_roomFor d 39 [(0, .ref x0)] [.int s1, .int s0] h (some (.int r)) h' := by
  unfold f_X12_roomFor_39 at H
  obtain ⟨d, rfl⟩ : ∃ e, d = e + 1 := ⟨d - 1, by omega⟩
  refine x_iadd dX12_roomFor_39 ?_
  obtain ⟨v25, ev25, H⟩ := nm_o H
  refine x_istore_n (lv' := [(2, .int v25), (0, .ref x0)]) dX12_roomFor_40 rfl (by decide) ev25 rfl ?_
  refine x_aload_n dX12_roomFor_41 rfl 1 rfl ?_
  refine x_iconst (v := 0) dX12_roomFor_42 (by decide) ?_
  refine x_iload_n dX12_roomFor_43 rfl 0 rfl ?_
  obtain ⟨c34, H⟩ := ko_o H
  obtain ⟨v26, h27, hc28, H⟩ := bd_o H
  refine x_callVv (As := [.int 0, .int v25]) (q := (RX12, TX12, 103)) dX12_roomFor_44 mi_X12_encodes lk_X12_356 im_X12_encodes se_X12_encodes rfl c34 rfl rfl (Nat.le_of_ble_eq_true rfl) (t_X12_encodes (by omega) hc28) ?_
  refine x_aload_n dX12_roomFor_47 rfl 1 rfl ?_
  obtain ⟨c29, H⟩ := ko_o H
  refine x_getI fr_X12_387 dX12_roomFor_48 c29 rfl ?_
  obtain ⟨v30, ev30, H⟩ := nm_o H
  refine x_istore_n (lv' := [(3, .int v30), (2, .int v25), (0, .ref x0)]) dX12_roomFor_51 rfl (by decide) ev30 rfl ?_
  refine x_aload_n dX12_roomFor_52 rfl 2 rfl ?_
  refine x_aload_n dX12_roomFor_53 rfl 2 rfl ?_
  refine x_getI fr_X12_393 dX12_roomFor_54 c29 rfl ?_
  refine x_putI fl_X12_445 dX12_roomFor_57 c29 (fun e => by cases e) rfl ?_
  refine x_aload_n dX12_roomFor_60 rfl 2 rfl ?_
  obtain ⟨v31, h32, hc33, H⟩ := bd_o H
  refine x_callVv (As := []) (q := (RX12, TX12, 103)) dX12_roomFor_61 mi_X12_laysHoles lk_X12_448 im_X12_laysHoles se_X12_laysHoles rfl c29 rfl rfl (Nat.le_of_ble_eq_true rfl) (t_X12_laysHoles (by omega) hc33) ?_
  refine x_iconst (v := (-1)) dX12_roomFor_64 (by decide) ?_
  refine x_istore (lv' := [(4, .int (-1)), (3, .int v30), (2, .int v25), (0, .ref x0)]) dX12_roomFor_65 (by decide) rfl rfl ?_
  refine x_lconst (v := 0) dX12_roomFor_67 (by decide) ?_
  refine x_lstore (lv' := [(5, .long 0), (4, .int (-1)), (3, .int v30), (2, .int v25), (0, .ref x0)]) dX12_roomFor_68 (by decide) rfl rfl ?_
  refine x_iconst (v := 0) dX12_roomFor_70 (by decide) ?_
  refine x_istore (lv' := [(7, .int 0), (5, .long 0), (4, .int (-1)), (3, .int v30), (2, .int v25), (0, .ref x0)]) dX12_roomFor_71 (by decide) rfl rfl ?_
  refine Ex.sub [5, 3, 2, 1, 0] rfl ?_
  exact t_X12_roomFor_73 hd FU H
def f_X12_roomFor (x0 : Nat) (x1 : Int32) (h : aH) : Option (Int32 × aH) :=
  ko h x0 11 <|
  bd (f_X12_objectMany x0 h) fun v35 h36 =>
  if v35 = 32 then
    some ((-1), h36)
  else
    ko h36 x0 11 <|
    bd (f_X12_isCoded x0 1 (sI h36 x0 49 x1)) fun v40 h41 =>
    if v40 = 0 then
      f_X12_roomFor_39 x0 x1 0 h41
    else
      ko h41 x0 11 <|
      bd (f_X12_codesTell x0 1 h41) fun v44 h45 =>
      bd (f_X12_clamp v44 99 h45) fun v47 h48 =>
      f_X12_roomFor_39 x0 x1 v47 h48
set_option maxRecDepth 100000 in
set_option maxHeartbeats 4000000 in
theorem t_X12_roomFor {Γ : gS} {d : Nat} (hd : 7 ≤ d) {x0 : Nat} {x1 : Int32} {h : aH} {r : Int32} {h' : aH} (H : f_X12_roomFor x0 x1 h = some (r, h')) : Mx Γ gX12_roomFor d [.ref x0, .int x1] h (some (.int r)) h' := by
  refine Mx.of (by decide +kernel) (Nat.le_of_ble_eq_true rfl) ?_
  unfold f_X12_roomFor at H
  show Ex Γ gX12_roomFor d 0 [(0, .ref x0), (1, .int x1)] [] h (some (.int r)) h'
  obtain ⟨d, rfl⟩ : ∃ e, d = e + 1 := ⟨d - 1, by omega⟩
  refine x_aload_n dX12_roomFor_0 rfl 0 rfl ?_
  obtain ⟨c51, H⟩ := ko_o H
  obtain ⟨v35, h36, hc37, H⟩ := bd_o H
  refine x_callVi (As := []) (q := (RX12, TX12, 103)) dX12_roomFor_1 mi_X12_objectMany lk_X12_425 im_X12_objectMany se_X12_objectMany rfl c51 rfl rfl (Nat.le_of_ble_eq_true rfl) (t_X12_objectMany (by omega) hc37) ?_
  refine x_bipush (v := 32) dX12_roomFor_4 (by decide) ?_
  refine x_icmp_ne (tgt := 11) dX12_roomFor_6 (by decide) (fun c38 => ?_) (fun c38 => ?_)
  · replace H := ite_m H c38
    refine x_aload_n dX12_roomFor_11 rfl 0 rfl ?_
    refine x_iload_n dX12_roomFor_12 rfl 1 rfl ?_
    obtain ⟨c39, H⟩ := ko_o H
    refine x_putI fl_X12_431 dX12_roomFor_13 c39 (fun e => by cases e) rfl ?_
    refine x_iload_n dX12_roomFor_16 rfl 1 rfl ?_
    refine x_aload_n dX12_roomFor_17 rfl 0 rfl ?_
    refine x_iconst (v := 1) dX12_roomFor_18 (by decide) ?_
    obtain ⟨v40, h41, hc42, H⟩ := bd_o H
    refine x_callVi (As := [.int 1]) (q := (RX12, TX12, 103)) dX12_roomFor_19 mi_X12_isCoded lk_X12_434 im_X12_isCoded se_X12_isCoded rfl c39 rfl rfl (Nat.le_of_ble_eq_true rfl) (t_X12_isCoded (by omega) hc42) ?_
    refine x_if_eq (tgt := 38) dX12_roomFor_22 (by decide) (fun c43 => ?_) (fun c43 => ?_)
    · replace H := ite_p H c43
      refine x_iconst (v := 0) dX12_roomFor_38 (by decide) ?_
      refine Ex.sub [0] rfl ?_
      exact t_X12_roomFor_39 hd H
    · replace H := ite_m H c43
      refine x_aload_n dX12_roomFor_25 rfl 0 rfl ?_
      refine x_iconst (v := 1) dX12_roomFor_26 (by decide) ?_
      obtain ⟨c50, H⟩ := ko_o H
      obtain ⟨v44, h45, hc46, H⟩ := bd_o H
      refine x_callVl (As := [.int 1]) (q := (RX12, TX12, 103)) dX12_roomFor_27 mi_X12_codesTell lk_X12_437 im_X12_codesTell se_X12_codesTell rfl c50 rfl rfl (Nat.le_of_ble_eq_true rfl) (t_X12_codesTell (by omega) hc46) ?_
      refine x_bipush (v := 99) dX12_roomFor_30 (by decide) ?_
      obtain ⟨v47, h48, hc49, H⟩ := bd_o H
      refine x_callSi (As := [.long v44, .int 99]) dX12_roomFor_32 mi_X12_clamp lk_X12_441 sm_X12_clamp rfl rfl (Nat.le_of_ble_eq_true rfl) (t_X12_clamp (by omega) hc49) ?_
      refine x_goto (tgt := 39) dX12_roomFor_35 (by decide) ?_
      refine Ex.sub [0] rfl ?_
      exact t_X12_roomFor_39 hd H
  · replace H := ite_p H c38
    refine x_iconst (v := (-1)) dX12_roomFor_9 (by decide) ?_
    obtain ⟨rfl, rfl⟩ := so_1 H
    exact x_iret dX12_roomFor_10 rfl rfl
def f_X12_isKept_63 (x0 : Nat) (x1 : Int32) (x2 : Int32) (x3 : Int32) (h : aH) : Option (Unit × aH) :=
  ko h x0 11 <|
  kr (hR h x0 47) fun a2 =>
  ka h a2 .int fun n5 =>
  chk (inb 1377 n5 = true) <|
  nm ((1378 + (3 * (hI h a2 (1377 : Int32).toNatClampNeg))) - 3) fun (v7 : Int32) =>
  chk (inb v7 n5 = true) <|
  chk (inb (v7 + 1) n5 = true) <|
  chk (inb (v7 + 2) n5 = true) <|
  some ((), sI (sI (sI h a2 v7.toNatClampNeg x1) a2 (v7 + 1 : Int32).toNatClampNeg x2) a2 (v7 + 2 : Int32).toNatClampNeg x3)
set_option maxRecDepth 100000 in
set_option maxHeartbeats 4000000 in
theorem t_X12_isKept_63 {Γ : gS} {d : Nat} (hd : 0 ≤ d) {x0 : Nat} {x1 : Int32} {x2 : Int32} {x3 : Int32} {h : aH} {r : Unit} {h' : aH} (H : f_X12_isKept_63 x0 x1 x2 x3 h = some (r, h')) : Ex Γ gX12_isKept d 63 [(0, .ref x0), (1, .int x1), (2, .int x2), (3, .int x3)] [] h none h' := by
  unfold f_X12_isKept_63 at H
  refine x_sipush (v := 1378) dX12_isKept_63 (by decide) ?_
  refine x_iconst (v := 3) dX12_isKept_66 (by decide) ?_
  refine x_aload_n dX12_isKept_67 rfl 0 rfl ?_
  obtain ⟨c1, H⟩ := ko_o H
  obtain ⟨a2, c3, H⟩ := kr_o H
  refine x_getR fr_X12_115 dX12_isKept_68 c1 rfl c3 ?_
  refine x_sipush (v := 1377) dX12_isKept_71 (by decide) ?_
  obtain ⟨n5, c4, H⟩ := ka_o H
  obtain ⟨c6, H⟩ := chk_o H
  refine x_iald dX12_isKept_74 c4 (inb_in.mp c6) ?_
  refine x_imul dX12_isKept_75 ?_
  refine x_iadd dX12_isKept_76 ?_
  refine x_iconst (v := 3) dX12_isKept_77 (by decide) ?_
  refine x_isub dX12_isKept_78 ?_
  obtain ⟨v7, ev7, H⟩ := nm_o H
  refine x_istore (lv' := [(4, .int v7), (0, .ref x0), (1, .int x1), (2, .int x2), (3, .int x3)]) dX12_isKept_79 (by decide) ev7 rfl ?_
  refine x_aload_n dX12_isKept_81 rfl 1 rfl ?_
  refine x_getR fr_X12_115 dX12_isKept_82 c1 rfl c3 ?_
  refine x_iload dX12_isKept_85 0 rfl ?_
  refine x_iload_n dX12_isKept_87 rfl 2 rfl ?_
  obtain ⟨c8, H⟩ := chk_o H
  refine x_iast dX12_isKept_88 c4 (inb_in.mp c8) ?_
  refine x_aload_n dX12_isKept_89 rfl 1 rfl ?_
  refine x_getR fr_X12_115 dX12_isKept_90 c1 rfl c3 ?_
  refine x_iload dX12_isKept_93 0 rfl ?_
  refine x_iconst (v := 1) dX12_isKept_95 (by decide) ?_
  refine x_iadd dX12_isKept_96 ?_
  refine x_iload_n dX12_isKept_97 rfl 3 rfl ?_
  obtain ⟨c9, H⟩ := chk_o H
  refine x_iast dX12_isKept_98 c4 (inb_in.mp c9) ?_
  refine x_aload_n dX12_isKept_99 rfl 1 rfl ?_
  refine x_getR fr_X12_115 dX12_isKept_100 c1 rfl c3 ?_
  refine x_iload dX12_isKept_103 0 rfl ?_
  refine x_iconst (v := 2) dX12_isKept_105 (by decide) ?_
  refine x_iadd dX12_isKept_106 ?_
  refine x_iload_n dX12_isKept_107 rfl 4 rfl ?_
  obtain ⟨c10, H⟩ := chk_o H
  refine x_iast dX12_isKept_108 c4 (inb_in.mp c10) ?_
  obtain ⟨-, rfl⟩ := so_1 H
  exact x_vret dX12_isKept_109 rfl
def b_X12_isKept_18 (k18 : Nat → Int32 → Int32 → Int32 → Int32 → aH → Option (Unit × aH)) (x0 : Nat) (x1 : Int32) (x2 : Int32) (x3 : Int32) (x4 : Int32) (h : aH) : Option (Unit × aH) :=
  if 1495 ≤ x4 then
    f_X12_isKept_63 x0 x1 x2 x3 h
  else
    ko h x0 11 <|
    kr (hR h x0 47) fun a13 =>
    ka h a13 .int fun n16 =>
    chk (inb (x4 + 3) n16 = true) <|
    chk (inb x4 n16 = true) <|
    nm (x4 + 1) fun (v19 : Int32) =>
    k18 x0 x1 x2 x3 v19 (sI h a13 x4.toNatClampNeg (hI h a13 (x4 + 3 : Int32).toNatClampNeg))
set_option maxRecDepth 100000 in
set_option maxHeartbeats 4000000 in
theorem tb_X12_isKept_18 {Γ : gS} {d : Nat} (hd : 0 ≤ d) {k18 : Nat → Int32 → Int32 → Int32 → Int32 → aH → Option (Unit × aH)} (hk18 : ∀ {x0 : Nat} {x1 : Int32} {x2 : Int32} {x3 : Int32} {x4 : Int32} {h : aH} {r : Unit} {h' : aH}, k18 x0 x1 x2 x3 x4 h = some (r, h') → Ex Γ gX12_isKept d 18 [(0, .ref x0), (1, .int x1), (2, .int x2), (3, .int x3), (4, .int x4)] [] h none h') {x0 : Nat} {x1 : Int32} {x2 : Int32} {x3 : Int32} {x4 : Int32} {h : aH} {r : Unit} {h' : aH} (H : b_X12_isKept_18 k18 x0 x1 x2 x3 x4 h = some (r, h')) : Ex Γ gX12_isKept d 18 [(0, .ref x0), (1, .int x1), (2, .int x2), (3, .int x3), (4, .int x4)] [] h none h' := by
  unfold b_X12_isKept_18 at H
  refine x_iload dX12_isKept_18 4 rfl ?_
  refine x_sipush (v := 1495) dX12_isKept_20 (by decide) ?_
  refine x_icmp_ge (tgt := 48) dX12_isKept_23 (by decide) (fun c11 => ?_) (fun c11 => ?_)
  · replace H := ite_p H c11
    refine x_goto (tgt := 63) dX12_isKept_48 (by decide) ?_
    refine Ex.sub [0, 1, 2, 3] rfl ?_
    exact t_X12_isKept_63 hd H
  · replace H := ite_m H c11
    refine x_aload_n dX12_isKept_26 rfl 0 rfl ?_
    obtain ⟨c12, H⟩ := ko_o H
    obtain ⟨a13, c14, H⟩ := kr_o H
    refine x_getR fr_X12_115 dX12_isKept_27 c12 rfl c14 ?_
    refine x_iload dX12_isKept_30 4 rfl ?_
    refine x_aload_n dX12_isKept_32 rfl 0 rfl ?_
    refine x_getR fr_X12_115 dX12_isKept_33 c12 rfl c14 ?_
    refine x_iload dX12_isKept_36 4 rfl ?_
    refine x_iconst (v := 3) dX12_isKept_38 (by decide) ?_
    refine x_iadd dX12_isKept_39 ?_
    obtain ⟨n16, c15, H⟩ := ka_o H
    obtain ⟨c17, H⟩ := chk_o H
    refine x_iald dX12_isKept_40 c15 (inb_in.mp c17) ?_
    obtain ⟨c18, H⟩ := chk_o H
    refine x_iast dX12_isKept_41 c15 (inb_in.mp c18) ?_
    obtain ⟨v19, ev19, H⟩ := nm_o H
    refine x_iinc (v := v19) (lv' := [(4, .int v19), (0, .ref x0), (1, .int x1), (2, .int x2), (3, .int x3)]) dX12_isKept_42 4 rfl (by decide) ev19 rfl ?_
    refine x_goto (tgt := 18) dX12_isKept_45 (by decide) ?_
    refine Ex.sub [1, 2, 3, 4, 0] rfl ?_
    exact hk18 H
def f_X12_isKept_18 : Nat → Nat → Int32 → Int32 → Int32 → Int32 → aH → Option (Unit × aH)
  | 0 => fun _ _ _ _ _ _ => none
  | n + 1 => b_X12_isKept_18 (f_X12_isKept_18 n)
set_option maxRecDepth 100000 in
set_option maxHeartbeats 4000000 in
theorem t_X12_isKept_18 {Γ : gS} {d : Nat} (hd : 0 ≤ d) (n : Nat) : ∀ {x0 : Nat} {x1 : Int32} {x2 : Int32} {x3 : Int32} {x4 : Int32} {h : aH} {r : Unit} {h' : aH}, f_X12_isKept_18 n x0 x1 x2 x3 x4 h = some (r, h') → Ex Γ gX12_isKept d 18 [(0, .ref x0), (1, .int x1), (2, .int x2), (3, .int x3), (4, .int x4)] [] h none h' := by
  induction n with
  | zero => intro x0 x1 x2 x3 x4 h r h' H; cases H
  | succ n ih => intro x0 x1 x2 x3 x4 h r h' H; exact tb_X12_isKept_18 hd ih H
def f_X12_isKept (x0 : Nat) (x1 : Int32) (x2 : Int32) (x3 : Int32) (h : aH) : Option (Unit × aH) :=
  ko h x0 11 <|
  kr (hR h x0 47) fun a21 =>
  ka h a21 .int fun n24 =>
  chk (inb 1377 n24 = true) <|
  if (hI h a21 (1377 : Int32).toNatClampNeg) = 40 then
    f_X12_isKept_18 FU x0 x1 x2 x3 1378 h
  else
    f_X12_isKept_63 x0 x1 x2 x3 (sI h a21 (1377 : Int32).toNatClampNeg ((hI h a21 (1377 : Int32).toNatClampNeg) + 1))
set_option maxRecDepth 100000 in
set_option maxHeartbeats 4000000 in
theorem t_X12_isKept {Γ : gS} {d : Nat} (hd : 0 ≤ d) {x0 : Nat} {x1 : Int32} {x2 : Int32} {x3 : Int32} {h : aH} {r : Unit} {h' : aH} (H : f_X12_isKept x0 x1 x2 x3 h = some (r, h')) : Mx Γ gX12_isKept d [.ref x0, .int x1, .int x2, .int x3] h none h' := by
  refine Mx.of (by decide +kernel) (Nat.le_of_ble_eq_true rfl) ?_
  unfold f_X12_isKept at H
  show Ex Γ gX12_isKept d 0 [(0, .ref x0), (1, .int x1), (2, .int x2), (3, .int x3)] [] h none h'
  refine x_aload_n dX12_isKept_0 rfl 0 rfl ?_
  obtain ⟨c20, H⟩ := ko_o H
  obtain ⟨a21, c22, H⟩ := kr_o H
  refine x_getR fr_X12_115 dX12_isKept_1 c20 rfl c22 ?_
  refine x_sipush (v := 1377) dX12_isKept_4 (by decide) ?_
  obtain ⟨n24, c23, H⟩ := ka_o H
  obtain ⟨c25, H⟩ := chk_o H
  refine x_iald dX12_isKept_7 c23 (inb_in.mp c25) ?_
  refine x_bipush (v := 40) dX12_isKept_8 (by decide) ?_
  refine x_icmp_ne (tgt := 51) dX12_isKept_10 (by decide) (fun c26 => ?_) (fun c26 => ?_)
  · replace H := ite_m H c26
    refine x_aload_n dX12_isKept_51 rfl 0 rfl ?_
    refine x_getR fr_X12_115 dX12_isKept_52 c20 rfl c22 ?_
    refine x_sipush (v := 1377) dX12_isKept_55 (by decide) ?_
    refine x_dup2 dX12_isKept_58 rfl rfl ?_
    refine x_iald dX12_isKept_59 c23 (inb_in.mp c25) ?_
    refine x_iconst (v := 1) dX12_isKept_60 (by decide) ?_
    refine x_iadd dX12_isKept_61 ?_
    refine x_iast dX12_isKept_62 c23 (inb_in.mp c25) ?_
    exact t_X12_isKept_63 hd H
  · replace H := ite_p H c26
    refine x_sipush (v := 1378) dX12_isKept_13 (by decide) ?_
    refine x_istore (lv' := [(4, .int 1378), (0, .ref x0), (1, .int x1), (2, .int x2), (3, .int x3)]) dX12_isKept_16 (by decide) rfl rfl ?_
    refine Ex.sub [1, 2, 3, 4, 0] rfl ?_
    exact t_X12_isKept_18 hd FU H
def b_X12_allocates_27 (k6 : Nat → Int32 → Int32 → Int32 → Int32 → aH → Option (Unit × aH)) (k27 : Nat → Int32 → Int32 → Int32 → Int32 → Int32 → aH → Option (Unit × aH)) (x0 : Nat) (x1 : Int32) (x2 : Int32) (x3 : Int32) (x4 : Int32) (x5 : Int32) (h : aH) : Option (Unit × aH) :=
  if 3 ≤ x5 then
    nm (x4 + (-1)) fun (v2 : Int32) =>
    k6 x0 x1 x2 x3 v2 h
  else
    ko h x0 11 <|
    kr (hR h x0 47) fun a4 =>
    bd (f_X12_objectOf x0 (x4 - 1) x5 h) fun v6 h7 =>
    ka h7 a4 .int fun n10 =>
    chk (inb ((257 + (3 * x4)) + x5) n10 = true) <|
    nm (x5 + 1) fun (v12 : Int32) =>
    k27 x0 x1 x2 x3 x4 v12 (sI h7 a4 ((257 + (3 * x4)) + x5 : Int32).toNatClampNeg v6)
set_option maxRecDepth 100000 in
set_option maxHeartbeats 4000000 in
theorem tb_X12_allocates_27 {Γ : gS} {d : Nat} (hd : 3 ≤ d) {k6 : Nat → Int32 → Int32 → Int32 → Int32 → aH → Option (Unit × aH)} (hk6 : ∀ {x0 : Nat} {x1 : Int32} {x2 : Int32} {x3 : Int32} {x4 : Int32} {h : aH} {r : Unit} {h' : aH}, k6 x0 x1 x2 x3 x4 h = some (r, h') → Ex Γ gX12_allocates d 6 [(0, .ref x0), (1, .int x1), (2, .int x2), (3, .int x3), (4, .int x4)] [] h none h') {k27 : Nat → Int32 → Int32 → Int32 → Int32 → Int32 → aH → Option (Unit × aH)} (hk27 : ∀ {x0 : Nat} {x1 : Int32} {x2 : Int32} {x3 : Int32} {x4 : Int32} {x5 : Int32} {h : aH} {r : Unit} {h' : aH}, k27 x0 x1 x2 x3 x4 x5 h = some (r, h') → Ex Γ gX12_allocates d 27 [(0, .ref x0), (1, .int x1), (2, .int x2), (3, .int x3), (4, .int x4), (5, .int x5)] [] h none h') {x0 : Nat} {x1 : Int32} {x2 : Int32} {x3 : Int32} {x4 : Int32} {x5 : Int32} {h : aH} {r : Unit} {h' : aH} (H : b_X12_allocates_27 k6 k27 x0 x1 x2 x3 x4 x5 h = some (r, h')) : Ex Γ gX12_allocates d 27 [(0, .ref x0), (1, .int x1), (2, .int x2), (3, .int x3), (4, .int x4), (5, .int x5)] [] h none h' := by
  unfold b_X12_allocates_27 at H
  obtain ⟨d, rfl⟩ : ∃ e, d = e + 1 := ⟨d - 1, by omega⟩
  refine x_iload dX12_allocates_27 5 rfl ?_
  refine x_iconst (v := 3) dX12_allocates_29 (by decide) ?_
  refine x_icmp_ge (tgt := 65) dX12_allocates_30 (by decide) (fun c1 => ?_) (fun c1 => ?_)
  · replace H := ite_p H c1
    obtain ⟨v2, ev2, H⟩ := nm_o H
    refine x_iinc (v := v2) (lv' := [(4, .int v2), (0, .ref x0), (1, .int x1), (2, .int x2), (3, .int x3), (5, .int x5)]) dX12_allocates_65 4 rfl (by decide) ev2 rfl ?_
    refine x_goto (tgt := 6) dX12_allocates_68 (by decide) ?_
    refine Ex.sub [1, 2, 3, 4, 0] rfl ?_
    exact hk6 H
  · replace H := ite_m H c1
    refine x_aload_n dX12_allocates_33 rfl 0 rfl ?_
    obtain ⟨c3, H⟩ := ko_o H
    obtain ⟨a4, c5, H⟩ := kr_o H
    refine x_getR fr_X12_115 dX12_allocates_34 c3 rfl c5 ?_
    refine x_sipush (v := 257) dX12_allocates_37 (by decide) ?_
    refine x_iconst (v := 3) dX12_allocates_40 (by decide) ?_
    refine x_iload dX12_allocates_41 4 rfl ?_
    refine x_imul dX12_allocates_43 ?_
    refine x_iadd dX12_allocates_44 ?_
    refine x_iload dX12_allocates_45 5 rfl ?_
    refine x_iadd dX12_allocates_47 ?_
    refine x_aload_n dX12_allocates_48 rfl 0 rfl ?_
    refine x_iload dX12_allocates_49 4 rfl ?_
    refine x_iconst (v := 1) dX12_allocates_51 (by decide) ?_
    refine x_isub dX12_allocates_52 ?_
    refine x_iload dX12_allocates_53 5 rfl ?_
    obtain ⟨v6, h7, hc8, H⟩ := bd_o H
    refine x_callVi (As := [.int (x4 - 1), .int x5]) (q := (RX12, TX12, 103)) dX12_allocates_55 mi_X12_objectOf lk_X12_428 im_X12_objectOf se_X12_objectOf rfl c3 rfl rfl (Nat.le_of_ble_eq_true rfl) (t_X12_objectOf (by omega) hc8) ?_
    obtain ⟨n10, c9, H⟩ := ka_o H
    obtain ⟨c11, H⟩ := chk_o H
    refine x_iast dX12_allocates_58 c9 (inb_in.mp c11) ?_
    obtain ⟨v12, ev12, H⟩ := nm_o H
    refine x_iinc (v := v12) (lv' := [(5, .int v12), (0, .ref x0), (1, .int x1), (2, .int x2), (3, .int x3), (4, .int x4)]) dX12_allocates_59 5 rfl (by decide) ev12 rfl ?_
    refine x_goto (tgt := 27) dX12_allocates_62 (by decide) ?_
    refine Ex.sub [1, 2, 3, 4, 5, 0] rfl ?_
    exact hk27 H
def f_X12_allocates_27 (k6 : Nat → Int32 → Int32 → Int32 → Int32 → aH → Option (Unit × aH)) : Nat → Nat → Int32 → Int32 → Int32 → Int32 → Int32 → aH → Option (Unit × aH)
  | 0 => fun _ _ _ _ _ _ _ => none
  | n + 1 => b_X12_allocates_27 k6 (f_X12_allocates_27 k6 n)
set_option maxRecDepth 100000 in
set_option maxHeartbeats 4000000 in
theorem t_X12_allocates_27 {Γ : gS} {d : Nat} (hd : 3 ≤ d) {k6 : Nat → Int32 → Int32 → Int32 → Int32 → aH → Option (Unit × aH)} (hk6 : ∀ {x0 : Nat} {x1 : Int32} {x2 : Int32} {x3 : Int32} {x4 : Int32} {h : aH} {r : Unit} {h' : aH}, k6 x0 x1 x2 x3 x4 h = some (r, h') → Ex Γ gX12_allocates d 6 [(0, .ref x0), (1, .int x1), (2, .int x2), (3, .int x3), (4, .int x4)] [] h none h') (n : Nat) : ∀ {x0 : Nat} {x1 : Int32} {x2 : Int32} {x3 : Int32} {x4 : Int32} {x5 : Int32} {h : aH} {r : Unit} {h' : aH}, f_X12_allocates_27 k6 n x0 x1 x2 x3 x4 x5 h = some (r, h') → Ex Γ gX12_allocates d 27 [(0, .ref x0), (1, .int x1), (2, .int x2), (3, .int x3), (4, .int x4), (5, .int x5)] [] h none h' := by
  induction n with
  | zero => intro x0 x1 x2 x3 x4 x5 h r h' H; cases H
  | succ n ih => intro x0 x1 x2 x3 x4 x5 h r h' H; exact tb_X12_allocates_27 hd hk6 ih H
def f_X12_allocates_71 (x0 : Nat) (x1 : Int32) (x2 : Int32) (x3 : Int32) (x4 : Int32) (h : aH) : Option (Unit × aH) :=
  ko h x0 11 <|
  kr (hR h x0 47) fun a14 =>
  ka h a14 .int fun n17 =>
  chk (inb (257 + (3 * x4)) n17 = true) <|
  nm (hI (sI h a14 (257 + (3 * x4) : Int32).toNatClampNeg x2) x0 57) fun (v19 : Int32) =>
  chk (inb ((257 + (3 * x4)) + 1) n17 = true) <|
  chk (inb ((257 + (3 * x4)) + 2) n17 = true) <|
  chk (inb 256 n17 = true) <|
  nm (hI (sI (sI (sI h a14 (257 + (3 * x4) : Int32).toNatClampNeg x2) a14 ((257 + (3 * x4)) + 1 : Int32).toNatClampNeg v19) a14 ((257 + (3 * x4)) + 2 : Int32).toNatClampNeg x3) a14 (256 : Int32).toNatClampNeg) fun (v23 : Int32) =>
  nm (8 * x1) fun (v24 : Int32) =>
  nm (hI (sI (sI (sI (sI h a14 (257 + (3 * x4) : Int32).toNatClampNeg x2) a14 ((257 + (3 * x4)) + 1 : Int32).toNatClampNeg v19) a14 ((257 + (3 * x4)) + 2 : Int32).toNatClampNeg x3) a14 (256 : Int32).toNatClampNeg (v23 + 1)) x0 57) fun (v25 : Int32) =>
  bd (f_X12_encodes x0 x2 v25 (sI (sI (sI (sI h a14 (257 + (3 * x4) : Int32).toNatClampNeg x2) a14 ((257 + (3 * x4)) + 1 : Int32).toNatClampNeg v19) a14 ((257 + (3 * x4)) + 2 : Int32).toNatClampNeg x3) a14 (256 : Int32).toNatClampNeg (v23 + 1))) fun _ h27 =>
  ko h27 x0 11 <|
  bd (f_X12_laysBounds x0 v24 h27) fun _ h30 =>
  ko h30 x0 11 <|
  kr (hR h30 x0 47) fun a33 =>
  ka h30 a33 .int fun n36 =>
  chk (inb v24 n36 = true) <|
  chk (inb (v24 + 1) n36 = true) <|
  chk (inb (v24 + 5) n36 = true) <|
  chk (inb (v24 + 6) n36 = true) <|
  nm (hI (sI (sI (sI (sI h30 a33 v24.toNatClampNeg 1) a33 (v24 + 1 : Int32).toNatClampNeg x2) a33 (v24 + 5 : Int32).toNatClampNeg 3) a33 (v24 + 6 : Int32).toNatClampNeg 0) x0 57) fun (v41 : Int32) =>
  bd (f_X12_isKept x0 0 x2 v41 (sI (sI (sI (sI h30 a33 v24.toNatClampNeg 1) a33 (v24 + 1 : Int32).toNatClampNeg x2) a33 (v24 + 5 : Int32).toNatClampNeg 3) a33 (v24 + 6 : Int32).toNatClampNeg 0)) fun _ h43 =>
  some ((), h43)
set_option maxRecDepth 100000 in
set_option maxHeartbeats 4000000 in
theorem t_X12_allocates_71 {Γ : gS} {d : Nat} (hd : 3 ≤ d) {x0 : Nat} {x1 : Int32} {x2 : Int32} {x3 : Int32} {x4 : Int32} {h : aH} {r : Unit} {h' : aH} (H : f_X12_allocates_71 x0 x1 x2 x3 x4 h = some (r, h')) : Ex Γ gX12_allocates d 71 [(0, .ref x0), (1, .int x1), (2, .int x2), (3, .int x3), (4, .int x4)] [] h none h' := by
  unfold f_X12_allocates_71 at H
  obtain ⟨d, rfl⟩ : ∃ e, d = e + 1 := ⟨d - 1, by omega⟩
  refine x_aload_n dX12_allocates_71 rfl 0 rfl ?_
  obtain ⟨c13, H⟩ := ko_o H
  obtain ⟨a14, c15, H⟩ := kr_o H
  refine x_getR fr_X12_115 dX12_allocates_72 c13 rfl c15 ?_
  refine x_sipush (v := 257) dX12_allocates_75 (by decide) ?_
  refine x_iconst (v := 3) dX12_allocates_78 (by decide) ?_
  refine x_iload dX12_allocates_79 4 rfl ?_
  refine x_imul dX12_allocates_81 ?_
  refine x_iadd dX12_allocates_82 ?_
  refine x_iload_n dX12_allocates_83 rfl 2 rfl ?_
  obtain ⟨n17, c16, H⟩ := ka_o H
  obtain ⟨c18, H⟩ := chk_o H
  refine x_iast dX12_allocates_84 c16 (inb_in.mp c18) ?_
  refine x_aload_n dX12_allocates_85 rfl 0 rfl ?_
  refine x_getR fr_X12_115 dX12_allocates_86 c13 rfl c15 ?_
  refine x_sipush (v := 257) dX12_allocates_89 (by decide) ?_
  refine x_iconst (v := 3) dX12_allocates_92 (by decide) ?_
  refine x_iload dX12_allocates_93 4 rfl ?_
  refine x_imul dX12_allocates_95 ?_
  refine x_iadd dX12_allocates_96 ?_
  refine x_iconst (v := 1) dX12_allocates_97 (by decide) ?_
  refine x_iadd dX12_allocates_98 ?_
  refine x_aload_n dX12_allocates_99 rfl 0 rfl ?_
  obtain ⟨v19, ev19, H⟩ := nm_o H
  refine x_getIe fr_X12_445 dX12_allocates_100 c13 rfl ev19 ?_
  obtain ⟨c20, H⟩ := chk_o H
  refine x_iast dX12_allocates_103 c16 (inb_in.mp c20) ?_
  refine x_aload_n dX12_allocates_104 rfl 0 rfl ?_
  refine x_getR fr_X12_115 dX12_allocates_105 c13 rfl c15 ?_
  refine x_sipush (v := 257) dX12_allocates_108 (by decide) ?_
  refine x_iconst (v := 3) dX12_allocates_111 (by decide) ?_
  refine x_iload dX12_allocates_112 4 rfl ?_
  refine x_imul dX12_allocates_114 ?_
  refine x_iadd dX12_allocates_115 ?_
  refine x_iconst (v := 2) dX12_allocates_116 (by decide) ?_
  refine x_iadd dX12_allocates_117 ?_
  refine x_iload_n dX12_allocates_118 rfl 3 rfl ?_
  obtain ⟨c21, H⟩ := chk_o H
  refine x_iast dX12_allocates_119 c16 (inb_in.mp c21) ?_
  refine x_aload_n dX12_allocates_120 rfl 0 rfl ?_
  refine x_getR fr_X12_115 dX12_allocates_121 c13 rfl c15 ?_
  refine x_sipush (v := 256) dX12_allocates_124 (by decide) ?_
  refine x_dup2 dX12_allocates_127 rfl rfl ?_
  obtain ⟨c22, H⟩ := chk_o H
  obtain ⟨v23, ev23, H⟩ := nm_o H
  refine x_ialde dX12_allocates_128 c16 (inb_in.mp c22) ev23 ?_
  refine x_iconst (v := 1) dX12_allocates_129 (by decide) ?_
  refine x_iadd dX12_allocates_130 ?_
  refine x_iast dX12_allocates_131 c16 (inb_in.mp c22) ?_
  refine x_bipush (v := 8) dX12_allocates_132 (by decide) ?_
  refine x_iload_n dX12_allocates_134 rfl 1 rfl ?_
  refine x_imul dX12_allocates_135 ?_
  obtain ⟨v24, ev24, H⟩ := nm_o H
  refine x_istore (lv' := [(5, .int v24), (0, .ref x0), (1, .int x1), (2, .int x2), (3, .int x3), (4, .int x4)]) dX12_allocates_136 (by decide) ev24 rfl ?_
  refine x_aload_n dX12_allocates_138 rfl 1 rfl ?_
  refine x_iload_n dX12_allocates_139 rfl 3 rfl ?_
  refine x_aload_n dX12_allocates_140 rfl 1 rfl ?_
  obtain ⟨v25, ev25, H⟩ := nm_o H
  refine x_getIe fr_X12_445 dX12_allocates_141 c13 rfl ev25 ?_
  obtain ⟨v26, h27, hc28, H⟩ := bd_o H
  refine x_callVv (As := [.int x2, .int v25]) (q := (RX12, TX12, 103)) dX12_allocates_144 mi_X12_encodes lk_X12_356 im_X12_encodes se_X12_encodes rfl c13 rfl rfl (Nat.le_of_ble_eq_true rfl) (t_X12_encodes (by omega) hc28) ?_
  refine x_aload_n dX12_allocates_147 rfl 1 rfl ?_
  refine x_iload dX12_allocates_148 0 rfl ?_
  obtain ⟨c45, H⟩ := ko_o H
  obtain ⟨v29, h30, hc31, H⟩ := bd_o H
  refine x_callVv (As := [.int v24]) (q := (RX12, TX12, 103)) dX12_allocates_150 mi_X12_laysBounds lk_X12_359 im_X12_laysBounds se_X12_laysBounds rfl c45 rfl rfl (Nat.le_of_ble_eq_true rfl) (t_X12_laysBounds (by omega) hc31) ?_
  refine x_aload_n dX12_allocates_153 rfl 1 rfl ?_
  obtain ⟨c32, H⟩ := ko_o H
  obtain ⟨a33, c34, H⟩ := kr_o H
  refine x_getR fr_X12_115 dX12_allocates_154 c32 rfl c34 ?_
  refine x_iload dX12_allocates_157 0 rfl ?_
  refine x_iconst (v := 1) dX12_allocates_159 (by decide) ?_
  obtain ⟨n36, c35, H⟩ := ka_o H
  obtain ⟨c37, H⟩ := chk_o H
  refine x_iast dX12_allocates_160 c35 (inb_in.mp c37) ?_
  refine x_aload_n dX12_allocates_161 rfl 1 rfl ?_
  refine x_getR fr_X12_115 dX12_allocates_162 c32 rfl c34 ?_
  refine x_iload dX12_allocates_165 0 rfl ?_
  refine x_iconst (v := 1) dX12_allocates_167 (by decide) ?_
  refine x_iadd dX12_allocates_168 ?_
  refine x_iload_n dX12_allocates_169 rfl 3 rfl ?_
  obtain ⟨c38, H⟩ := chk_o H
  refine x_iast dX12_allocates_170 c35 (inb_in.mp c38) ?_
  refine x_aload_n dX12_allocates_171 rfl 1 rfl ?_
  refine x_getR fr_X12_115 dX12_allocates_172 c32 rfl c34 ?_
  refine x_iload dX12_allocates_175 0 rfl ?_
  refine x_iconst (v := 5) dX12_allocates_177 (by decide) ?_
  refine x_iadd dX12_allocates_178 ?_
  refine x_iconst (v := 3) dX12_allocates_179 (by decide) ?_
  obtain ⟨c39, H⟩ := chk_o H
  refine x_iast dX12_allocates_180 c35 (inb_in.mp c39) ?_
  refine x_aload_n dX12_allocates_181 rfl 1 rfl ?_
  refine x_getR fr_X12_115 dX12_allocates_182 c32 rfl c34 ?_
  refine x_iload dX12_allocates_185 0 rfl ?_
  refine x_bipush (v := 6) dX12_allocates_187 (by decide) ?_
  refine x_iadd dX12_allocates_189 ?_
  refine x_iconst (v := 0) dX12_allocates_190 (by decide) ?_
  obtain ⟨c40, H⟩ := chk_o H
  refine x_iast dX12_allocates_191 c35 (inb_in.mp c40) ?_
  refine x_aload_n dX12_allocates_192 rfl 1 rfl ?_
  refine x_iconst (v := 0) dX12_allocates_193 (by decide) ?_
  refine x_iload_n dX12_allocates_194 rfl 3 rfl ?_
  refine x_aload_n dX12_allocates_195 rfl 1 rfl ?_
  obtain ⟨v41, ev41, H⟩ := nm_o H
  refine x_getIe fr_X12_445 dX12_allocates_196 c32 rfl ev41 ?_
  obtain ⟨v42, h43, hc44, H⟩ := bd_o H
  refine x_callVv (As := [.int 0, .int x2, .int v41]) (q := (RX12, TX12, 103)) dX12_allocates_199 mi_X12_isKept lk_X12_457 im_X12_isKept se_X12_isKept rfl c32 rfl rfl (Nat.le_of_ble_eq_true rfl) (t_X12_isKept (by omega) hc44) ?_
  obtain ⟨-, rfl⟩ := so_1 H
  exact x_vret dX12_allocates_202 rfl
def b_X12_allocates_6 (k6 : Nat → Int32 → Int32 → Int32 → Int32 → aH → Option (Unit × aH)) (x0 : Nat) (x1 : Int32) (x2 : Int32) (x3 : Int32) (x4 : Int32) (h : aH) : Option (Unit × aH) :=
  if x4 ≤ 0 then
    f_X12_allocates_71 x0 x1 x2 x3 x4 h
  else
    ko h x0 11 <|
    bd (f_X12_objectOf x0 (x4 - 1) 0 h) fun v47 h48 =>
    if v47 ≤ x2 then
      f_X12_allocates_71 x0 x1 x2 x3 x4 h48
    else
      f_X12_allocates_27 k6 FU x0 x1 x2 x3 x4 0 h48
set_option maxRecDepth 100000 in
set_option maxHeartbeats 4000000 in
theorem tb_X12_allocates_6 {Γ : gS} {d : Nat} (hd : 3 ≤ d) {k6 : Nat → Int32 → Int32 → Int32 → Int32 → aH → Option (Unit × aH)} (hk6 : ∀ {x0 : Nat} {x1 : Int32} {x2 : Int32} {x3 : Int32} {x4 : Int32} {h : aH} {r : Unit} {h' : aH}, k6 x0 x1 x2 x3 x4 h = some (r, h') → Ex Γ gX12_allocates d 6 [(0, .ref x0), (1, .int x1), (2, .int x2), (3, .int x3), (4, .int x4)] [] h none h') {x0 : Nat} {x1 : Int32} {x2 : Int32} {x3 : Int32} {x4 : Int32} {h : aH} {r : Unit} {h' : aH} (H : b_X12_allocates_6 k6 x0 x1 x2 x3 x4 h = some (r, h')) : Ex Γ gX12_allocates d 6 [(0, .ref x0), (1, .int x1), (2, .int x2), (3, .int x3), (4, .int x4)] [] h none h' := by
  unfold b_X12_allocates_6 at H
  obtain ⟨d, rfl⟩ : ∃ e, d = e + 1 := ⟨d - 1, by omega⟩
  refine x_iload dX12_allocates_6 4 rfl ?_
  refine x_if_le (tgt := 71) dX12_allocates_8 (by decide) (fun c46 => ?_) (fun c46 => ?_)
  · replace H := ite_p H c46
    exact t_X12_allocates_71 hd H
  · replace H := ite_m H c46
    refine x_aload_n dX12_allocates_11 rfl 0 rfl ?_
    refine x_iload dX12_allocates_12 4 rfl ?_
    refine x_iconst (v := 1) dX12_allocates_14 (by decide) ?_
    refine x_isub dX12_allocates_15 ?_
    refine x_iconst (v := 0) dX12_allocates_16 (by decide) ?_
    obtain ⟨c51, H⟩ := ko_o H
    obtain ⟨v47, h48, hc49, H⟩ := bd_o H
    refine x_callVi (As := [.int (x4 - 1), .int 0]) (q := (RX12, TX12, 103)) dX12_allocates_17 mi_X12_objectOf lk_X12_428 im_X12_objectOf se_X12_objectOf rfl c51 rfl rfl (Nat.le_of_ble_eq_true rfl) (t_X12_objectOf (by omega) hc49) ?_
    refine x_iload_n dX12_allocates_20 rfl 2 rfl ?_
    refine x_icmp_le (tgt := 71) dX12_allocates_21 (by decide) (fun c50 => ?_) (fun c50 => ?_)
    · replace H := ite_p H c50
      exact t_X12_allocates_71 hd H
    · replace H := ite_m H c50
      refine x_iconst (v := 0) dX12_allocates_24 (by decide) ?_
      refine x_istore (lv' := [(5, .int 0), (0, .ref x0), (1, .int x1), (2, .int x2), (3, .int x3), (4, .int x4)]) dX12_allocates_25 (by decide) rfl rfl ?_
      refine Ex.sub [1, 2, 3, 4, 5, 0] rfl ?_
      exact t_X12_allocates_27 hd hk6 FU H
def f_X12_allocates_6 : Nat → Nat → Int32 → Int32 → Int32 → Int32 → aH → Option (Unit × aH)
  | 0 => fun _ _ _ _ _ _ => none
  | n + 1 => b_X12_allocates_6 (f_X12_allocates_6 n)
set_option maxRecDepth 100000 in
set_option maxHeartbeats 4000000 in
theorem t_X12_allocates_6 {Γ : gS} {d : Nat} (hd : 3 ≤ d) (n : Nat) : ∀ {x0 : Nat} {x1 : Int32} {x2 : Int32} {x3 : Int32} {x4 : Int32} {h : aH} {r : Unit} {h' : aH}, f_X12_allocates_6 n x0 x1 x2 x3 x4 h = some (r, h') → Ex Γ gX12_allocates d 6 [(0, .ref x0), (1, .int x1), (2, .int x2), (3, .int x3), (4, .int x4)] [] h none h' := by
  induction n with
  | zero => intro x0 x1 x2 x3 x4 h r h' H; cases H
  | succ n ih => intro x0 x1 x2 x3 x4 h r h' H; exact tb_X12_allocates_6 hd ih H
def f_X12_allocates (x0 : Nat) (x1 : Int32) (x2 : Int32) (x3 : Int32) (h : aH) : Option (Unit × aH) :=
  ko h x0 11 <|
  bd (f_X12_objectMany x0 h) fun v52 h53 =>
  f_X12_allocates_6 FU x0 x1 x2 x3 v52 h53
set_option maxRecDepth 100000 in
set_option maxHeartbeats 4000000 in
theorem t_X12_allocates {Γ : gS} {d : Nat} (hd : 3 ≤ d) {x0 : Nat} {x1 : Int32} {x2 : Int32} {x3 : Int32} {h : aH} {r : Unit} {h' : aH} (H : f_X12_allocates x0 x1 x2 x3 h = some (r, h')) : Mx Γ gX12_allocates d [.ref x0, .int x1, .int x2, .int x3] h none h' := by
  refine Mx.of (by decide +kernel) (Nat.le_of_ble_eq_true rfl) ?_
  unfold f_X12_allocates at H
  show Ex Γ gX12_allocates d 0 [(0, .ref x0), (1, .int x1), (2, .int x2), (3, .int x3)] [] h none h'
  obtain ⟨d, rfl⟩ : ∃ e, d = e + 1 := ⟨d - 1, by omega⟩
  refine x_aload_n dX12_allocates_0 rfl 0 rfl ?_
  obtain ⟨c55, H⟩ := ko_o H
  obtain ⟨v52, h53, hc54, H⟩ := bd_o H
  refine x_callVi (As := []) (q := (RX12, TX12, 103)) dX12_allocates_1 mi_X12_objectMany lk_X12_425 im_X12_objectMany se_X12_objectMany rfl c55 rfl rfl (Nat.le_of_ble_eq_true rfl) (t_X12_objectMany (by omega) hc54) ?_
  refine x_istore (lv' := [(4, .int v52), (0, .ref x0), (1, .int x1), (2, .int x2), (3, .int x3)]) dX12_allocates_4 (by decide) rfl rfl ?_
  refine Ex.sub [1, 2, 3, 4, 0] rfl ?_
  exact t_X12_allocates_6 hd FU H
def f_X12_objectBy_54 (k2 : Nat → Int32 → Int32 → aH → Option (Int32 × aH)) (x0 : Nat) (x1 : Int32) (x2 : Int32) (h : aH) : Option (Int32 × aH) :=
  nm (x2 + 1) fun (v1 : Int32) =>
  k2 x0 x1 v1 h
set_option maxRecDepth 100000 in
set_option maxHeartbeats 4000000 in
theorem t_X12_objectBy_54 {Γ : gS} {d : Nat} (hd : 5 ≤ d) {k2 : Nat → Int32 → Int32 → aH → Option (Int32 × aH)} (hk2 : ∀ {x0 : Nat} {x1 : Int32} {x2 : Int32} {h : aH} {r : Int32} {h' : aH}, k2 x0 x1 x2 h = some (r, h') → Ex Γ gX12_objectBy d 2 [(0, .ref x0), (1, .int x1), (2, .int x2)] [] h (some (.int r)) h') {x0 : Nat} {x1 : Int32} {x2 : Int32} {h : aH} {r : Int32} {h' : aH} (H : f_X12_objectBy_54 k2 x0 x1 x2 h = some (r, h')) : Ex Γ gX12_objectBy d 54 [(0, .ref x0), (1, .int x1), (2, .int x2)] [] h (some (.int r)) h' := by
  unfold f_X12_objectBy_54 at H
  obtain ⟨d, rfl⟩ : ∃ e, d = e + 1 := ⟨d - 1, by omega⟩
  obtain ⟨v1, ev1, H⟩ := nm_o H
  refine x_iinc (v := v1) (lv' := [(2, .int v1), (0, .ref x0), (1, .int x1)]) dX12_objectBy_54 2 rfl (by decide) ev1 rfl ?_
  refine x_goto (tgt := 2) dX12_objectBy_57 (by decide) ?_
  refine Ex.sub [1, 2, 0] rfl ?_
  exact hk2 H
def f_X12_objectBy_60 (h : aH) : Option (Int32 × aH) :=
  some ((-1), h)
set_option maxRecDepth 100000 in
set_option maxHeartbeats 4000000 in
theorem t_X12_objectBy_60 {Γ : gS} {d : Nat} (hd : 5 ≤ d) {h : aH} {r : Int32} {h' : aH} (H : f_X12_objectBy_60 h = some (r, h')) : Ex Γ gX12_objectBy d 60 [] [] h (some (.int r)) h' := by
  unfold f_X12_objectBy_60 at H
  obtain ⟨d, rfl⟩ : ∃ e, d = e + 1 := ⟨d - 1, by omega⟩
  refine x_iconst (v := (-1)) dX12_objectBy_60 (by decide) ?_
  obtain ⟨rfl, rfl⟩ := so_1 H
  exact x_iret dX12_objectBy_61 rfl rfl
def b_X12_objectBy_2 (k2 : Nat → Int32 → Int32 → aH → Option (Int32 × aH)) (x0 : Nat) (x1 : Int32) (x2 : Int32) (h : aH) : Option (Int32 × aH) :=
  ko h x0 11 <|
  bd (f_X12_objectMany x0 h) fun v2 h3 =>
  if v2 ≤ x2 then
    f_X12_objectBy_60 h3
  else
    ko h3 x0 11 <|
    bd (f_X12_isOpen x0 x1 h3) fun v6 h7 =>
    if v6 = 0 then
      f_X12_objectBy_60 h7
    else
      ko h7 x0 11 <|
      bd (f_X12_objectOf x0 x2 0 h7) fun v10 h11 =>
      ko h11 x0 11 <|
      bd (f_X12_baseOf x0 (8 * x1) h11) fun v13 h14 =>
      if v10 = v13 then
        ko h14 x0 11 <|
        bd (f_X12_objectOf x0 x2 1 h14) fun v17 h18 =>
        ko h18 x0 11 <|
        bd (f_X12_lengthOf x0 (8 * x1) h18) fun v20 h21 =>
        if v17 = v20 then
          some (x2, h21)
        else
          f_X12_objectBy_54 k2 x0 x1 x2 h21
      else
        f_X12_objectBy_54 k2 x0 x1 x2 h14
set_option maxRecDepth 100000 in
set_option maxHeartbeats 4000000 in
theorem tb_X12_objectBy_2 {Γ : gS} {d : Nat} (hd : 5 ≤ d) {k2 : Nat → Int32 → Int32 → aH → Option (Int32 × aH)} (hk2 : ∀ {x0 : Nat} {x1 : Int32} {x2 : Int32} {h : aH} {r : Int32} {h' : aH}, k2 x0 x1 x2 h = some (r, h') → Ex Γ gX12_objectBy d 2 [(0, .ref x0), (1, .int x1), (2, .int x2)] [] h (some (.int r)) h') {x0 : Nat} {x1 : Int32} {x2 : Int32} {h : aH} {r : Int32} {h' : aH} (H : b_X12_objectBy_2 k2 x0 x1 x2 h = some (r, h')) : Ex Γ gX12_objectBy d 2 [(0, .ref x0), (1, .int x1), (2, .int x2)] [] h (some (.int r)) h' := by
  unfold b_X12_objectBy_2 at H
  obtain ⟨d, rfl⟩ : ∃ e, d = e + 1 := ⟨d - 1, by omega⟩
  refine x_iload_n dX12_objectBy_2 rfl 2 rfl ?_
  refine x_aload_n dX12_objectBy_3 rfl 0 rfl ?_
  obtain ⟨c29, H⟩ := ko_o H
  obtain ⟨v2, h3, hc4, H⟩ := bd_o H
  refine x_callVi (As := []) (q := (RX12, TX12, 103)) dX12_objectBy_4 mi_X12_objectMany lk_X12_425 im_X12_objectMany se_X12_objectMany rfl c29 rfl rfl (Nat.le_of_ble_eq_true rfl) (t_X12_objectMany (by omega) hc4) ?_
  refine x_icmp_ge (tgt := 60) dX12_objectBy_7 (by decide) (fun c5 => ?_) (fun c5 => ?_)
  · replace H := ite_p H c5
    refine Ex.sub [] rfl ?_
    exact t_X12_objectBy_60 hd H
  · replace H := ite_m H c5
    refine x_aload_n dX12_objectBy_10 rfl 0 rfl ?_
    refine x_iload_n dX12_objectBy_11 rfl 1 rfl ?_
    obtain ⟨c28, H⟩ := ko_o H
    obtain ⟨v6, h7, hc8, H⟩ := bd_o H
    refine x_callVi (As := [.int x1]) (q := (RX12, TX12, 103)) dX12_objectBy_12 mi_X12_isOpen lk_X12_460 im_X12_isOpen se_X12_isOpen rfl c28 rfl rfl (Nat.le_of_ble_eq_true rfl) (t_X12_isOpen (by omega) hc8) ?_
    refine x_if_eq (tgt := 60) dX12_objectBy_15 (by decide) (fun c9 => ?_) (fun c9 => ?_)
    · replace H := ite_p H c9
      refine Ex.sub [] rfl ?_
      exact t_X12_objectBy_60 hd H
    · replace H := ite_m H c9
      refine x_aload_n dX12_objectBy_18 rfl 0 rfl ?_
      refine x_iload_n dX12_objectBy_19 rfl 2 rfl ?_
      refine x_iconst (v := 0) dX12_objectBy_20 (by decide) ?_
      obtain ⟨c27, H⟩ := ko_o H
      obtain ⟨v10, h11, hc12, H⟩ := bd_o H
      refine x_callVi (As := [.int x2, .int 0]) (q := (RX12, TX12, 103)) dX12_objectBy_21 mi_X12_objectOf lk_X12_428 im_X12_objectOf se_X12_objectOf rfl c27 rfl rfl (Nat.le_of_ble_eq_true rfl) (t_X12_objectOf (by omega) hc12) ?_
      refine x_aload_n dX12_objectBy_24 rfl 0 rfl ?_
      refine x_bipush (v := 8) dX12_objectBy_25 (by decide) ?_
      refine x_iload_n dX12_objectBy_27 rfl 1 rfl ?_
      refine x_imul dX12_objectBy_28 ?_
      obtain ⟨c26, H⟩ := ko_o H
      obtain ⟨v13, h14, hc15, H⟩ := bd_o H
      refine x_callVi (As := [.int (8 * x1)]) (q := (RX12, TX12, 103)) dX12_objectBy_29 mi_X12_baseOf lk_X12_412 im_X12_baseOf se_X12_baseOf rfl c26 rfl rfl (Nat.le_of_ble_eq_true rfl) (t_X12_baseOf (by omega) hc15) ?_
      refine x_icmp_ne (tgt := 54) dX12_objectBy_32 (by decide) (fun c16 => ?_) (fun c16 => ?_)
      · replace H := ite_m H c16
        exact t_X12_objectBy_54 hd hk2 H
      · replace H := ite_p H c16
        refine x_aload_n dX12_objectBy_35 rfl 0 rfl ?_
        refine x_iload_n dX12_objectBy_36 rfl 2 rfl ?_
        refine x_iconst (v := 1) dX12_objectBy_37 (by decide) ?_
        obtain ⟨c25, H⟩ := ko_o H
        obtain ⟨v17, h18, hc19, H⟩ := bd_o H
        refine x_callVi (As := [.int x2, .int 1]) (q := (RX12, TX12, 103)) dX12_objectBy_38 mi_X12_objectOf lk_X12_428 im_X12_objectOf se_X12_objectOf rfl c25 rfl rfl (Nat.le_of_ble_eq_true rfl) (t_X12_objectOf (by omega) hc19) ?_
        refine x_aload_n dX12_objectBy_41 rfl 0 rfl ?_
        refine x_bipush (v := 8) dX12_objectBy_42 (by decide) ?_
        refine x_iload_n dX12_objectBy_44 rfl 1 rfl ?_
        refine x_imul dX12_objectBy_45 ?_
        obtain ⟨c24, H⟩ := ko_o H
        obtain ⟨v20, h21, hc22, H⟩ := bd_o H
        refine x_callVi (As := [.int (8 * x1)]) (q := (RX12, TX12, 103)) dX12_objectBy_46 mi_X12_lengthOf lk_X12_415 im_X12_lengthOf se_X12_lengthOf rfl c24 rfl rfl (Nat.le_of_ble_eq_true rfl) (t_X12_lengthOf (by omega) hc22) ?_
        refine x_icmp_ne (tgt := 54) dX12_objectBy_49 (by decide) (fun c23 => ?_) (fun c23 => ?_)
        · replace H := ite_m H c23
          exact t_X12_objectBy_54 hd hk2 H
        · replace H := ite_p H c23
          refine x_iload_n dX12_objectBy_52 rfl 2 rfl ?_
          obtain ⟨rfl, rfl⟩ := so_1 H
          exact x_iret dX12_objectBy_53 rfl rfl
def f_X12_objectBy_2 : Nat → Nat → Int32 → Int32 → aH → Option (Int32 × aH)
  | 0 => fun _ _ _ _ => none
  | n + 1 => b_X12_objectBy_2 (f_X12_objectBy_2 n)
set_option maxRecDepth 100000 in
set_option maxHeartbeats 4000000 in
theorem t_X12_objectBy_2 {Γ : gS} {d : Nat} (hd : 5 ≤ d) (n : Nat) : ∀ {x0 : Nat} {x1 : Int32} {x2 : Int32} {h : aH} {r : Int32} {h' : aH}, f_X12_objectBy_2 n x0 x1 x2 h = some (r, h') → Ex Γ gX12_objectBy d 2 [(0, .ref x0), (1, .int x1), (2, .int x2)] [] h (some (.int r)) h' := by
  induction n with
  | zero => intro x0 x1 x2 h r h' H; cases H
  | succ n ih => intro x0 x1 x2 h r h' H; exact tb_X12_objectBy_2 hd ih H
def f_X12_objectBy (x0 : Nat) (x1 : Int32) (h : aH) : Option (Int32 × aH) :=
  f_X12_objectBy_2 FU x0 x1 0 h
set_option maxRecDepth 100000 in
set_option maxHeartbeats 4000000 in
theorem t_X12_objectBy {Γ : gS} {d : Nat} (hd : 5 ≤ d) {x0 : Nat} {x1 : Int32} {h : aH} {r : Int32} {h' : aH} (H : f_X12_objectBy x0 x1 h = some (r, h')) : Mx Γ gX12_objectBy d [.ref x0, .int x1] h (some (.int r)) h' := by
  refine Mx.of (by decide +kernel) (Nat.le_of_ble_eq_true rfl) ?_
  unfold f_X12_objectBy at H
  show Ex Γ gX12_objectBy d 0 [(0, .ref x0), (1, .int x1)] [] h (some (.int r)) h'
  obtain ⟨d, rfl⟩ : ∃ e, d = e + 1 := ⟨d - 1, by omega⟩
  refine x_iconst (v := 0) dX12_objectBy_0 (by decide) ?_
  refine x_istore_n (lv' := [(2, .int 0), (0, .ref x0), (1, .int x1)]) dX12_objectBy_1 rfl (by decide) rfl rfl ?_
  refine Ex.sub [1, 2, 0] rfl ?_
  exact t_X12_objectBy_2 hd FU H
